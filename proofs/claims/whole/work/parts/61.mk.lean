/-! ===== the model: rule, part, ask, declares, declare, say, refer, empty, fits, weight, valueOf, value, valueAnew, from, boxOf, box, boxAnew, lines, elements, reached, thrown (by gen.py) ===== -/
def m_rule (S : MM) (a0 : Int32) (a1 : Int32) (a2 : Int32) (a3 : Int32) (a4 : Int32) (a5 : Int32) : Option (Int32 × MM) := bnd (if (m_isPart a0 a1 a2) = (0 : Int32) then (0 : Int32) else if (m_in a3 (0 : Int32) (1 : Int32)) = (0 : Int32) then (0 : Int32) else if (m_in a4 (0 : Int32) (2 : Int32)) = (0 : Int32) then (0 : Int32) else (1 : Int32)) fun p5 => (bnd (if (16 : Int32) ≤ (S 10 0) then (0 : Int32) else (1 : Int32)) fun p8 => bd2 (m_asked_ S p5 p8) fun p9 S10 => (if p9 = (0 : Int32) then (some ((0 : Int32), S10)) else (bd (m_keeps S10) fun S11 => (bd (m_lay S11 ((3 : Int32) * (S11 10 0)) ((-1) : Int32) a0 a1 a2) fun S12 => (if ix (S12 10 0) 16 then bnd (u2 S12 11 (tn (S12 10 0)) (1 : Int32)) fun S13 => (if ix (S13 10 0) 16 then bnd (u2 S13 16 (tn (S13 10 0)) a3) fun S15 => (if ix (S15 10 0) 16 then bnd (u2 S15 17 (tn (S15 10 0)) a4) fun S17 => (if ix (S17 10 0) 16 then if (a5 = 0 ∨ a5 = 1) then bnd (u2 S17 18 (tn (S17 10 0)) a5) fun S19 => (if ix (S19 10 0) 16 then bnd (u2 S19 19 (tn (S19 10 0)) ((-1) : Int32)) fun S22 => (bnd (u2 S22 10 0 ((S22 10 0) + (1 : Int32))) fun S24 => (bnd (u2 S24 33 0 (0 : Int32)) fun S25 => (bd (m_changes S25) fun S26 => (some ((S26 10 0) - (1 : Int32), S26))))) else none) else none else none) else none) else none) else none)))))
theorem z_rule (l : Launch) (G : Gl) {m : Nat} {h : Hp} (hM : MW m h) {S : MM} {a0 a1 a2 a3 a4 a5 : Int32} {r : Int32 × MM} (E : m_rule S a0 a1 a2 a3 a4 a5 = some r) : MRw l G yX12_rule (.code yX12_rule cX12_rule 8 (Option.some Jvm.ClassFile.FieldType.int)) 7 0 0 [.ref m, .int a0, .int a1, .int a2, .int a3, .int a4, .int a5] (pm m h S) (.inl (some (.int r.1), pm m h r.2)) := by
  refine mr_of (by decide +kernel) (Nat.le_of_ble_eq_true rfl) (ct7 rfl rfl rfl rfl rfl rfl rfl) (fun X hG hl C E0 => ?_)
  subst hG hl
  rw [m_rule] at E
  refine r_iload_n (i := 1) C dX12_rule_0 rfl rfl ?_
  refine r_iload_n (i := 2) C dX12_rule_1 rfl rfl ?_
  refine r_iload_n (i := 3) C dX12_rule_2 rfl rfl ?_
  refine r_callSs C s_X12_164 (z_isPart _ _) dX12_rule_3 (As := [_, _, _]) rfl rfl rfl (by first | exact Nat.le_refl _ | exact Nat.le_of_ble_eq_true rfl | omega) (Nat.le_of_ble_eq_true rfl) (by first | exact Nat.le_refl _ | exact Nat.le_of_ble_eq_true rfl | omega) (by first | exact Nat.le_refl _ | exact Nat.le_of_ble_eq_true rfl | omega) ?_
  have J4 : ∀ (u : Unit), wr X 0 0 34 [.ref m, .int a0, .int a1, .int a2, .int a3, .int a4, .int a5, (.long 0)] [.int (if (m_isPart a0 a1 a2) = (0 : Int32) then (0 : Int32) else if (m_in a3 (0 : Int32) (1 : Int32)) = (0 : Int32) then (0 : Int32) else if (m_in a4 (0 : Int32) (2 : Int32)) = (0 : Int32) then (0 : Int32) else (1 : Int32))] (pm m h S) := by
    intro u
    refine bnd_elim (P := fun (z : Int32) => wr X 0 0 34 [.ref m, .int a0, .int a1, .int a2, .int a3, .int a4, .int a5, (.long 0)] [.int z] (pm m h S)) E (fun p5 E => ?_)
    refine r_istore (i := 7) C dX12_rule_34 (Nat.le_of_ble_eq_true rfl) ?_
    refine r_aload_n (i := 0) C dX12_rule_36 rfl rfl (by first | rfl | exact isR_rf _) ?_
    refine r_iload (i := 7) C dX12_rule_37 rfl ?_
    refine r_aload_n (i := 0) C dX12_rule_39 rfl rfl (by first | rfl | exact isR_rf _) ?_
    refine rm_get (k := 10) C f_X12_126 dX12_rule_40 rfl rfl hM rfl ?_
    refine r_bipush (v := 16) C dX12_rule_43 (by decide) ?_
    have J7 : ∀ (u : Unit), wr X 0 0 53 [.ref m, .int a0, .int a1, .int a2, .int a3, .int a4, .int a5, .int p5] [.int (if (16 : Int32) ≤ (S 10 0) then (0 : Int32) else (1 : Int32)), .int p5, .ref m] (pm m h S) := by
      intro u
      refine bnd_elim (P := fun (z : Int32) => wr X 0 0 53 [.ref m, .int a0, .int a1, .int a2, .int a3, .int a4, .int a5, .int p5] [.int z, .int p5, .ref m] (pm m h S)) E (fun p8 E => ?_)
      obtain ⟨p9, S10, q, E⟩ := bd2_elim E
      refine r_callVs C v_X12_153 (z_asked_ _ _ hM q) dX12_rule_53 hM.1 (ci := 10) (by decide) rfl rfl (As := [_, _]) rfl rfl rfl (by first | exact Nat.le_refl _ | exact Nat.le_of_ble_eq_true rfl | omega) (Nat.le_of_ble_eq_true rfl) (by first | exact Nat.le_refl _ | exact Nat.le_of_ble_eq_true rfl | omega) (by first | exact Nat.le_refl _ | exact Nat.le_of_ble_eq_true rfl | omega) ?_
      refine r_if_ne (tgt := 61) C dX12_rule_56 (by decide) (fun c_56 => ?_) (fun c_56 => ?_)
      · have E := ite_f E c_56
        refine r_aload_n (i := 0) C dX12_rule_61 rfl rfl (by first | rfl | exact isR_rf _) ?_
        obtain ⟨S11, q, E⟩ := bd_elim E
        refine r_callVn C v_X12_147 (z_keeps _ _ hM q) dX12_rule_62 hM.1 (ci := 10) (by decide) rfl rfl (As := []) rfl rfl rfl (by first | exact Nat.le_refl _ | exact Nat.le_of_ble_eq_true rfl | omega) (Nat.le_of_ble_eq_true rfl) (by first | exact Nat.le_refl _ | exact Nat.le_of_ble_eq_true rfl | omega) (by first | exact Nat.le_refl _ | exact Nat.le_of_ble_eq_true rfl | omega) ?_
        refine r_aload_n (i := 0) C dX12_rule_65 rfl rfl (by first | rfl | exact isR_rf _) ?_
        refine r_iconst (v := 3) C dX12_rule_66 (by decide) ?_
        refine r_aload_n (i := 0) C dX12_rule_67 rfl rfl (by first | rfl | exact isR_rf _) ?_
        refine rm_get (k := 10) C f_X12_126 dX12_rule_68 rfl rfl hM rfl ?_
        refine r_imul C dX12_rule_71 ?_
        refine r_iconst (v := (-1)) C dX12_rule_72 (by decide) ?_
        refine r_iload_n (i := 1) C dX12_rule_73 rfl rfl ?_
        refine r_iload_n (i := 2) C dX12_rule_74 rfl rfl ?_
        refine r_iload_n (i := 3) C dX12_rule_75 rfl rfl ?_
        obtain ⟨S12, q, E⟩ := bd_elim E
        refine r_callVn C v_X12_167 (z_lay _ _ hM q) dX12_rule_76 hM.1 (ci := 10) (by decide) rfl rfl (As := [_, _, _, _, _]) rfl rfl rfl (by first | exact Nat.le_refl _ | exact Nat.le_of_ble_eq_true rfl | omega) (Nat.le_of_ble_eq_true rfl) (by first | exact Nat.le_refl _ | exact Nat.le_of_ble_eq_true rfl | omega) (by first | exact Nat.le_refl _ | exact Nat.le_of_ble_eq_true rfl | omega) ?_
        refine r_aload_n (i := 0) C dX12_rule_79 rfl rfl (by first | rfl | exact isR_rf _) ?_
        refine rm_ref (k := 11) C f_X12_39 dX12_rule_80 rfl rfl hM rfl ?_
        refine r_aload_n (i := 0) C dX12_rule_83 rfl rfl (by first | rfl | exact isR_rf _) ?_
        refine rm_get (k := 10) C f_X12_126 dX12_rule_84 rfl rfl hM rfl ?_
        refine r_iconst (v := 1) C dX12_rule_87 (by decide) ?_
        obtain ⟨g14, E⟩ := gd_elim E
        refine rm_iast (k := 11) C dX12_rule_88 hM rfl rfl g14 ?_
        refine bnd_elim (P := fun (Z : MM) => wr X 0 0 89 [.ref m, .int a0, .int a1, .int a2, .int a3, .int a4, .int a5, .int p5] [] (pm m h Z)) E (fun S13 E => ?_)
        refine r_aload_n (i := 0) C dX12_rule_89 rfl rfl (by first | rfl | exact isR_rf _) ?_
        refine rm_ref (k := 16) C f_X12_54 dX12_rule_90 rfl rfl hM rfl ?_
        refine r_aload_n (i := 0) C dX12_rule_93 rfl rfl (by first | rfl | exact isR_rf _) ?_
        refine rm_get (k := 10) C f_X12_126 dX12_rule_94 rfl rfl hM rfl ?_
        refine r_iload (i := 4) C dX12_rule_97 rfl ?_
        obtain ⟨g16, E⟩ := gd_elim E
        refine rm_iast (k := 16) C dX12_rule_99 hM rfl rfl g16 ?_
        refine bnd_elim (P := fun (Z : MM) => wr X 0 0 100 [.ref m, .int a0, .int a1, .int a2, .int a3, .int a4, .int a5, .int p5] [] (pm m h Z)) E (fun S15 E => ?_)
        refine r_aload_n (i := 0) C dX12_rule_100 rfl rfl (by first | rfl | exact isR_rf _) ?_
        refine rm_ref (k := 17) C f_X12_57 dX12_rule_101 rfl rfl hM rfl ?_
        refine r_aload_n (i := 0) C dX12_rule_104 rfl rfl (by first | rfl | exact isR_rf _) ?_
        refine rm_get (k := 10) C f_X12_126 dX12_rule_105 rfl rfl hM rfl ?_
        refine r_iload (i := 5) C dX12_rule_108 rfl ?_
        obtain ⟨g18, E⟩ := gd_elim E
        refine rm_iast (k := 17) C dX12_rule_110 hM rfl rfl g18 ?_
        refine bnd_elim (P := fun (Z : MM) => wr X 0 0 111 [.ref m, .int a0, .int a1, .int a2, .int a3, .int a4, .int a5, .int p5] [] (pm m h Z)) E (fun S17 E => ?_)
        refine r_aload_n (i := 0) C dX12_rule_111 rfl rfl (by first | rfl | exact isR_rf _) ?_
        refine rm_ref (k := 18) C f_X12_60 dX12_rule_112 rfl rfl hM rfl ?_
        refine r_aload_n (i := 0) C dX12_rule_115 rfl rfl (by first | rfl | exact isR_rf _) ?_
        refine rm_get (k := 10) C f_X12_126 dX12_rule_116 rfl rfl hM rfl ?_
        refine r_iload (i := 6) C dX12_rule_119 rfl ?_
        obtain ⟨g20, E⟩ := gd_elim E
        obtain ⟨g21, E⟩ := gd_elim E
        refine rm_zast (k := 18) C dX12_rule_121 hM rfl rfl g20 g21 ?_
        refine bnd_elim (P := fun (Z : MM) => wr X 0 0 122 [.ref m, .int a0, .int a1, .int a2, .int a3, .int a4, .int a5, .int p5] [] (pm m h Z)) E (fun S19 E => ?_)
        refine r_aload_n (i := 0) C dX12_rule_122 rfl rfl (by first | rfl | exact isR_rf _) ?_
        refine rm_ref (k := 19) C f_X12_63 dX12_rule_123 rfl rfl hM rfl ?_
        refine r_aload_n (i := 0) C dX12_rule_126 rfl rfl (by first | rfl | exact isR_rf _) ?_
        refine rm_get (k := 10) C f_X12_126 dX12_rule_127 rfl rfl hM rfl ?_
        refine r_iconst (v := (-1)) C dX12_rule_130 (by decide) ?_
        obtain ⟨g23, E⟩ := gd_elim E
        refine rm_iast (k := 19) C dX12_rule_131 hM rfl rfl g23 ?_
        refine bnd_elim (P := fun (Z : MM) => wr X 0 0 132 [.ref m, .int a0, .int a1, .int a2, .int a3, .int a4, .int a5, .int p5] [] (pm m h Z)) E (fun S22 E => ?_)
        refine r_aload_n (i := 0) C dX12_rule_132 rfl rfl (by first | rfl | exact isR_rf _) ?_
        refine r_dup C (by first | rfl | exact isR_cat (isR_rf _)) dX12_rule_133 ?_
        refine rm_get (k := 10) C f_X12_126 dX12_rule_134 rfl rfl hM rfl ?_
        refine r_iconst (v := 1) C dX12_rule_137 (by decide) ?_
        refine r_iadd C dX12_rule_138 ?_
        refine rm_put (k := 10) C f_X12_126 dX12_rule_139 rfl rfl hM rfl ?_
        refine bnd_elim (P := fun (Z : MM) => wr X 0 0 142 [.ref m, .int a0, .int a1, .int a2, .int a3, .int a4, .int a5, .int p5] [] (pm m h Z)) E (fun S24 E => ?_)
        refine r_aload_n (i := 0) C dX12_rule_142 rfl rfl (by first | rfl | exact isR_rf _) ?_
        refine r_iconst (v := 0) C dX12_rule_143 (by decide) ?_
        refine rm_put (k := 33) C f_X12_136 dX12_rule_144 rfl rfl hM rfl ?_
        refine bnd_elim (P := fun (Z : MM) => wr X 0 0 147 [.ref m, .int a0, .int a1, .int a2, .int a3, .int a4, .int a5, .int p5] [] (pm m h Z)) E (fun S25 E => ?_)
        refine r_aload_n (i := 0) C dX12_rule_147 rfl rfl (by first | rfl | exact isR_rf _) ?_
        obtain ⟨S26, q, E⟩ := bd_elim E
        refine r_callVn C v_X12_150 (z_changes _ _ hM q) dX12_rule_148 hM.1 (ci := 10) (by decide) rfl rfl (As := []) rfl rfl rfl (by first | exact Nat.le_refl _ | exact Nat.le_of_ble_eq_true rfl | omega) (Nat.le_of_ble_eq_true rfl) (by first | exact Nat.le_refl _ | exact Nat.le_of_ble_eq_true rfl | omega) (by first | exact Nat.le_refl _ | exact Nat.le_of_ble_eq_true rfl | omega) ?_
        refine r_aload_n (i := 0) C dX12_rule_151 rfl rfl (by first | rfl | exact isR_rf _) ?_
        refine rm_get (k := 10) C f_X12_126 dX12_rule_152 rfl rfl hM rfl ?_
        refine r_iconst (v := 1) C dX12_rule_155 (by decide) ?_
        refine r_isub C dX12_rule_156 ?_
        obtain rfl := Option.some.inj E
        exact r_iret C E0 dX12_rule_157 rfl rfl (Nat.le_refl _) (Nat.le_refl _)
      · have E := ite_t E c_56
        refine r_iconst (v := 0) C dX12_rule_59 (by decide) ?_
        obtain rfl := Option.some.inj E
        exact r_iret C E0 dX12_rule_60 rfl rfl (Nat.le_refl _) (Nat.le_refl _)
    refine r_ic_ge (tgt := 52) C dX12_rule_45 (by decide) (fun c_45_k6 => ?_) (fun c_45_k6 => ?_)
    · refine r_iconst (v := 0) C dX12_rule_52 (by decide) ?_
      first | exact (J7  ()) | (simp only [if_pos c_45_k6] at J7; exact (J7  ()))
    · refine r_iconst (v := 1) C dX12_rule_48 (by decide) ?_
      refine r_goto (tgt := 53) C dX12_rule_49 (by decide) ?_
      first | exact (J7  ()) | (simp only [if_neg c_45_k6] at J7; exact (J7  ()))
  refine r_if_eq (tgt := 33) C dX12_rule_6 (by decide) (fun c_6_k1 => ?_) (fun c_6_k1 => ?_)
  · refine r_iconst (v := 0) C dX12_rule_33 (by decide) ?_
    first | exact (J4  ()) | (simp only [if_pos c_6_k1] at J4; exact (J4  ()))
  · refine r_iload (i := 4) C dX12_rule_9 rfl ?_
    refine r_iconst (v := 0) C dX12_rule_11 (by decide) ?_
    refine r_iconst (v := 1) C dX12_rule_12 (by decide) ?_
    refine r_callSs C s_X12_129 (z_in _ _) dX12_rule_13 (As := [_, _, _]) rfl rfl rfl (by first | exact Nat.le_refl _ | exact Nat.le_of_ble_eq_true rfl | omega) (Nat.le_of_ble_eq_true rfl) (by first | exact Nat.le_refl _ | exact Nat.le_of_ble_eq_true rfl | omega) (by first | exact Nat.le_refl _ | exact Nat.le_of_ble_eq_true rfl | omega) ?_
    refine r_if_eq (tgt := 33) C dX12_rule_16 (by decide) (fun c_16_k2 => ?_) (fun c_16_k2 => ?_)
    · refine r_iconst (v := 0) C dX12_rule_33 (by decide) ?_
      first | exact (J4  ()) | (simp only [if_neg c_6_k1, if_pos c_16_k2] at J4; exact (J4  ()))
    · refine r_iload (i := 5) C dX12_rule_19 rfl ?_
      refine r_iconst (v := 0) C dX12_rule_21 (by decide) ?_
      refine r_iconst (v := 2) C dX12_rule_22 (by decide) ?_
      refine r_callSs C s_X12_129 (z_in _ _) dX12_rule_23 (As := [_, _, _]) rfl rfl rfl (by first | exact Nat.le_refl _ | exact Nat.le_of_ble_eq_true rfl | omega) (Nat.le_of_ble_eq_true rfl) (by first | exact Nat.le_refl _ | exact Nat.le_of_ble_eq_true rfl | omega) (by first | exact Nat.le_refl _ | exact Nat.le_of_ble_eq_true rfl | omega) ?_
      refine r_if_eq (tgt := 33) C dX12_rule_26 (by decide) (fun c_26_k3 => ?_) (fun c_26_k3 => ?_)
      · refine r_iconst (v := 0) C dX12_rule_33 (by decide) ?_
        first | exact (J4  ()) | (simp only [if_neg c_6_k1, if_neg c_16_k2, if_pos c_26_k3] at J4; exact (J4  ()))
      · refine r_iconst (v := 1) C dX12_rule_29 (by decide) ?_
        refine r_goto (tgt := 34) C dX12_rule_30 (by decide) ?_
        first | exact (J4  ()) | (simp only [if_neg c_6_k1, if_neg c_16_k2, if_neg c_26_k3] at J4; exact (J4  ()))

def m_part (S : MM) (a0 : Int32) (a1 : Int32) (a2 : Int32) (a3 : Int32) (a4 : Int32) : Option (Int32 × MM) := bnd (if (m_in a1 (0 : Int32) (2 : Int32)) = (0 : Int32) then (0 : Int32) else if (m_isPart a2 a3 a4) = (0 : Int32) then (0 : Int32) else (1 : Int32)) fun p4 => if (¬ ((m_isRule S a0) = (0 : Int32)) → ix a0 16) then bnd (if (m_isRule S a0) = (0 : Int32) then (0 : Int32) else if (3 : Int32) ≤ (S 11 (tn a0)) then (0 : Int32) else (1 : Int32)) fun p10 => bd2 (m_asked__ S (m_isRule S a0) p4 p10) fun p11 S12 => (if p11 = (0 : Int32) then (some ((0 : Int32), S12)) else (bd (m_keeps S12) fun S13 => (if ix a0 16 then bd (m_lay S13 (((3 : Int32) * a0) + (S13 11 (tn a0))) a1 a2 a3 a4) fun S16 => (bnd (u2 S16 11 (tn a0) ((S16 11 (tn a0)) + (1 : Int32))) fun S17 => (bnd (u2 S17 33 0 (0 : Int32)) fun S18 => (bd (m_changes S18) fun S19 => (bd (m_weightOf S19 a0) fun p20 => (some (p20, S19)))))) else none))) else none
theorem z_part (l : Launch) (G : Gl) {m : Nat} {h : Hp} (hM : MW m h) {S : MM} {a0 a1 a2 a3 a4 : Int32} {r : Int32 × MM} (E : m_part S a0 a1 a2 a3 a4 = some r) : MRw l G yX12_part (.code yX12_part cX12_part 6 (Option.some Jvm.ClassFile.FieldType.int)) 7 0 0 [.ref m, .int a0, .int a1, .int a2, .int a3, .int a4] (pm m h S) (.inl (some (.int r.1), pm m h r.2)) := by
  refine mr_of (by decide +kernel) (Nat.le_of_ble_eq_true rfl) (ct6 rfl rfl rfl rfl rfl rfl) (fun X hG hl C E0 => ?_)
  subst hG hl
  rw [m_part] at E
  refine r_aload_n (i := 0) C dX12_part_0 rfl rfl (by first | rfl | exact isR_rf _) ?_
  refine r_aload_n (i := 0) C dX12_part_1 rfl rfl (by first | rfl | exact isR_rf _) ?_
  refine r_iload_n (i := 1) C dX12_part_2 rfl rfl ?_
  refine r_callVs C v_X12_174 (z_isRule _ _ hM) dX12_part_3 hM.1 (ci := 10) (by decide) rfl rfl (As := [_]) rfl rfl rfl (by first | exact Nat.le_refl _ | exact Nat.le_of_ble_eq_true rfl | omega) (Nat.le_of_ble_eq_true rfl) (by first | exact Nat.le_refl _ | exact Nat.le_of_ble_eq_true rfl | omega) (by first | exact Nat.le_refl _ | exact Nat.le_of_ble_eq_true rfl | omega) ?_
  refine r_iload_n (i := 2) C dX12_part_6 rfl rfl ?_
  refine r_iconst (v := 0) C dX12_part_7 (by decide) ?_
  refine r_iconst (v := 2) C dX12_part_8 (by decide) ?_
  refine r_callSs C s_X12_129 (z_in _ _) dX12_part_9 (As := [_, _, _]) rfl rfl rfl (by first | exact Nat.le_refl _ | exact Nat.le_of_ble_eq_true rfl | omega) (Nat.le_of_ble_eq_true rfl) (by first | exact Nat.le_refl _ | exact Nat.le_of_ble_eq_true rfl | omega) (by first | exact Nat.le_refl _ | exact Nat.le_of_ble_eq_true rfl | omega) ?_
  have J3 : ∀ (u : Unit), wr X 0 0 31 [.ref m, .int a0, .int a1, .int a2, .int a3, .int a4] [.int (if (m_in a1 (0 : Int32) (2 : Int32)) = (0 : Int32) then (0 : Int32) else if (m_isPart a2 a3 a4) = (0 : Int32) then (0 : Int32) else (1 : Int32)), .int (m_isRule S a0), .ref m] (pm m h S) := by
    intro u
    refine bnd_elim (P := fun (z : Int32) => wr X 0 0 31 [.ref m, .int a0, .int a1, .int a2, .int a3, .int a4] [.int z, .int (m_isRule S a0), .ref m] (pm m h S)) E (fun p4 E => ?_)
    refine r_aload_n (i := 0) C dX12_part_31 rfl rfl (by first | rfl | exact isR_rf _) ?_
    refine r_iload_n (i := 1) C dX12_part_32 rfl rfl ?_
    refine r_callVs C v_X12_174 (z_isRule _ _ hM) dX12_part_33 hM.1 (ci := 10) (by decide) rfl rfl (As := [_]) rfl rfl rfl (by first | exact Nat.le_refl _ | exact Nat.le_of_ble_eq_true rfl | omega) (Nat.le_of_ble_eq_true rfl) (by first | exact Nat.le_refl _ | exact Nat.le_of_ble_eq_true rfl | omega) (by first | exact Nat.le_refl _ | exact Nat.le_of_ble_eq_true rfl | omega) ?_
    obtain ⟨g8, E⟩ := gd_elim E
    have J9 : ∀ (u : Unit), wr X 0 0 54 [.ref m, .int a0, .int a1, .int a2, .int a3, .int a4] [.int (if (m_isRule S a0) = (0 : Int32) then (0 : Int32) else if (3 : Int32) ≤ (S 11 (tn a0)) then (0 : Int32) else (1 : Int32)), .int p4, .int (m_isRule S a0), .ref m] (pm m h S) := by
      intro u
      refine bnd_elim (P := fun (z : Int32) => wr X 0 0 54 [.ref m, .int a0, .int a1, .int a2, .int a3, .int a4] [.int z, .int p4, .int (m_isRule S a0), .ref m] (pm m h S)) E (fun p10 E => ?_)
      obtain ⟨p11, S12, q, E⟩ := bd2_elim E
      refine r_callVs C v_X12_143 (z_asked__ _ _ hM q) dX12_part_54 hM.1 (ci := 10) (by decide) rfl rfl (As := [_, _, _]) rfl rfl rfl (by first | exact Nat.le_refl _ | exact Nat.le_of_ble_eq_true rfl | omega) (Nat.le_of_ble_eq_true rfl) (by first | exact Nat.le_refl _ | exact Nat.le_of_ble_eq_true rfl | omega) (by first | exact Nat.le_refl _ | exact Nat.le_of_ble_eq_true rfl | omega) ?_
      refine r_if_ne (tgt := 62) C dX12_part_57 (by decide) (fun c_57 => ?_) (fun c_57 => ?_)
      · have E := ite_f E c_57
        refine r_aload_n (i := 0) C dX12_part_62 rfl rfl (by first | rfl | exact isR_rf _) ?_
        obtain ⟨S13, q, E⟩ := bd_elim E
        refine r_callVn C v_X12_147 (z_keeps _ _ hM q) dX12_part_63 hM.1 (ci := 10) (by decide) rfl rfl (As := []) rfl rfl rfl (by first | exact Nat.le_refl _ | exact Nat.le_of_ble_eq_true rfl | omega) (Nat.le_of_ble_eq_true rfl) (by first | exact Nat.le_refl _ | exact Nat.le_of_ble_eq_true rfl | omega) (by first | exact Nat.le_refl _ | exact Nat.le_of_ble_eq_true rfl | omega) ?_
        refine r_aload_n (i := 0) C dX12_part_66 rfl rfl (by first | rfl | exact isR_rf _) ?_
        refine r_iconst (v := 3) C dX12_part_67 (by decide) ?_
        refine r_iload_n (i := 1) C dX12_part_68 rfl rfl ?_
        refine r_imul C dX12_part_69 ?_
        refine r_aload_n (i := 0) C dX12_part_70 rfl rfl (by first | rfl | exact isR_rf _) ?_
        refine rm_ref (k := 11) C f_X12_39 dX12_part_71 rfl rfl hM rfl ?_
        refine r_iload_n (i := 1) C dX12_part_74 rfl rfl ?_
        obtain ⟨g15, E⟩ := gd_elim E
        refine rm_iald (k := 11) C dX12_part_75 hM rfl rfl g15 ?_
        refine r_iadd C dX12_part_76 ?_
        refine r_iload_n (i := 2) C dX12_part_77 rfl rfl ?_
        refine r_iload_n (i := 3) C dX12_part_78 rfl rfl ?_
        refine r_iload (i := 4) C dX12_part_79 rfl ?_
        refine r_iload (i := 5) C dX12_part_81 rfl ?_
        obtain ⟨S16, q, E⟩ := bd_elim E
        refine r_callVn C v_X12_167 (z_lay _ _ hM q) dX12_part_83 hM.1 (ci := 10) (by decide) rfl rfl (As := [_, _, _, _, _]) rfl rfl rfl (by first | exact Nat.le_refl _ | exact Nat.le_of_ble_eq_true rfl | omega) (Nat.le_of_ble_eq_true rfl) (by first | exact Nat.le_refl _ | exact Nat.le_of_ble_eq_true rfl | omega) (by first | exact Nat.le_refl _ | exact Nat.le_of_ble_eq_true rfl | omega) ?_
        refine r_aload_n (i := 0) C dX12_part_86 rfl rfl (by first | rfl | exact isR_rf _) ?_
        refine rm_ref (k := 11) C f_X12_39 dX12_part_87 rfl rfl hM rfl ?_
        refine r_iload_n (i := 1) C dX12_part_90 rfl rfl ?_
        refine r_dup2 C (by first | rfl | exact isR_cat (isR_rf _)) (by first | rfl | exact isR_cat (isR_rf _)) dX12_part_91 ?_
        refine rm_iald (k := 11) C dX12_part_92 hM rfl rfl g15 ?_
        refine r_iconst (v := 1) C dX12_part_93 (by decide) ?_
        refine r_iadd C dX12_part_94 ?_
        refine rm_iast (k := 11) C dX12_part_95 hM rfl rfl g15 ?_
        refine bnd_elim (P := fun (Z : MM) => wr X 0 0 96 [.ref m, .int a0, .int a1, .int a2, .int a3, .int a4] [] (pm m h Z)) E (fun S17 E => ?_)
        refine r_aload_n (i := 0) C dX12_part_96 rfl rfl (by first | rfl | exact isR_rf _) ?_
        refine r_iconst (v := 0) C dX12_part_97 (by decide) ?_
        refine rm_put (k := 33) C f_X12_136 dX12_part_98 rfl rfl hM rfl ?_
        refine bnd_elim (P := fun (Z : MM) => wr X 0 0 101 [.ref m, .int a0, .int a1, .int a2, .int a3, .int a4] [] (pm m h Z)) E (fun S18 E => ?_)
        refine r_aload_n (i := 0) C dX12_part_101 rfl rfl (by first | rfl | exact isR_rf _) ?_
        obtain ⟨S19, q, E⟩ := bd_elim E
        refine r_callVn C v_X12_150 (z_changes _ _ hM q) dX12_part_102 hM.1 (ci := 10) (by decide) rfl rfl (As := []) rfl rfl rfl (by first | exact Nat.le_refl _ | exact Nat.le_of_ble_eq_true rfl | omega) (Nat.le_of_ble_eq_true rfl) (by first | exact Nat.le_refl _ | exact Nat.le_of_ble_eq_true rfl | omega) (by first | exact Nat.le_refl _ | exact Nat.le_of_ble_eq_true rfl | omega) ?_
        refine r_aload_n (i := 0) C dX12_part_105 rfl rfl (by first | rfl | exact isR_rf _) ?_
        refine r_iload_n (i := 1) C dX12_part_106 rfl rfl ?_
        obtain ⟨p20, q, E⟩ := bd_elim E
        refine r_callVs C v_X12_178 (z_weightOf _ _ hM q) dX12_part_107 hM.1 (ci := 10) (by decide) rfl rfl (As := [_]) rfl rfl rfl (by first | exact Nat.le_refl _ | exact Nat.le_of_ble_eq_true rfl | omega) (Nat.le_of_ble_eq_true rfl) (by first | exact Nat.le_refl _ | exact Nat.le_of_ble_eq_true rfl | omega) (by first | exact Nat.le_refl _ | exact Nat.le_of_ble_eq_true rfl | omega) ?_
        obtain rfl := Option.some.inj E
        exact r_iret C E0 dX12_part_110 rfl rfl (Nat.le_refl _) (Nat.le_refl _)
      · have E := ite_t E c_57
        refine r_iconst (v := 0) C dX12_part_60 (by decide) ?_
        obtain rfl := Option.some.inj E
        exact r_iret C E0 dX12_part_61 rfl rfl (Nat.le_refl _) (Nat.le_refl _)
    refine r_if_eq (tgt := 53) C dX12_part_36 (by decide) (fun c_36_k5 => ?_) (fun c_36_k5 => ?_)
    · refine r_iconst (v := 0) C dX12_part_53 (by decide) ?_
      first | exact (J9  ()) | (simp only [if_pos c_36_k5] at J9; exact (J9  ()))
    · refine r_aload_n (i := 0) C dX12_part_39 rfl rfl (by first | rfl | exact isR_rf _) ?_
      refine rm_ref (k := 11) C f_X12_39 dX12_part_40 rfl rfl hM rfl ?_
      refine r_iload_n (i := 1) C dX12_part_43 rfl rfl ?_
      refine rm_iald (k := 11) C dX12_part_44 hM rfl rfl (g8 c_36_k5) ?_
      refine r_iconst (v := 3) C dX12_part_45 (by decide) ?_
      refine r_ic_ge (tgt := 53) C dX12_part_46 (by decide) (fun c_46_k7 => ?_) (fun c_46_k7 => ?_)
      · refine r_iconst (v := 0) C dX12_part_53 (by decide) ?_
        first | exact (J9  ()) | (simp only [if_neg c_36_k5, if_pos c_46_k7] at J9; exact (J9  ()))
      · refine r_iconst (v := 1) C dX12_part_49 (by decide) ?_
        refine r_goto (tgt := 54) C dX12_part_50 (by decide) ?_
        first | exact (J9  ()) | (simp only [if_neg c_36_k5, if_neg c_46_k7] at J9; exact (J9  ()))
  refine r_if_eq (tgt := 30) C dX12_part_12 (by decide) (fun c_12_k1 => ?_) (fun c_12_k1 => ?_)
  · refine r_iconst (v := 0) C dX12_part_30 (by decide) ?_
    first | exact (J3  ()) | (simp only [if_pos c_12_k1] at J3; exact (J3  ()))
  · refine r_iload_n (i := 3) C dX12_part_15 rfl rfl ?_
    refine r_iload (i := 4) C dX12_part_16 rfl ?_
    refine r_iload (i := 5) C dX12_part_18 rfl ?_
    refine r_callSs C s_X12_164 (z_isPart _ _) dX12_part_20 (As := [_, _, _]) rfl rfl rfl (by first | exact Nat.le_refl _ | exact Nat.le_of_ble_eq_true rfl | omega) (Nat.le_of_ble_eq_true rfl) (by first | exact Nat.le_refl _ | exact Nat.le_of_ble_eq_true rfl | omega) (by first | exact Nat.le_refl _ | exact Nat.le_of_ble_eq_true rfl | omega) ?_
    refine r_if_eq (tgt := 30) C dX12_part_23 (by decide) (fun c_23_k2 => ?_) (fun c_23_k2 => ?_)
    · refine r_iconst (v := 0) C dX12_part_30 (by decide) ?_
      first | exact (J3  ()) | (simp only [if_neg c_12_k1, if_pos c_23_k2] at J3; exact (J3  ()))
    · refine r_iconst (v := 1) C dX12_part_26 (by decide) ?_
      refine r_goto (tgt := 31) C dX12_part_27 (by decide) ?_
      first | exact (J3  ()) | (simp only [if_neg c_12_k1, if_neg c_23_k2] at J3; exact (J3  ()))

def m_ask (S : MM) (a0 : Int32) (a1 : Int32) : Option (Int32 × MM) := bd2 (m_asked_ S (m_isRule S a0) (m_in a1 ((-1) : Int32) (2000 : Int32))) fun p1 S2 => (if p1 = (0 : Int32) then (some ((0 : Int32), S2)) else (bd (m_keeps S2) fun S3 => (if ix a0 16 then bnd (S3 19 (tn a0)) fun p6 => (bnd (u2 S3 19 (tn a0) a1) fun S7 => (bnd (u2 S7 33 0 (0 : Int32)) fun S8 => (bd (m_changes S8) fun S9 => (some (p6, S9))))) else none)))
theorem z_ask (l : Launch) (G : Gl) {m : Nat} {h : Hp} (hM : MW m h) {S : MM} {a0 a1 : Int32} {r : Int32 × MM} (E : m_ask S a0 a1 = some r) : MRw l G yX12_ask (.code yX12_ask cX12_ask 4 (Option.some Jvm.ClassFile.FieldType.int)) 7 0 0 [.ref m, .int a0, .int a1] (pm m h S) (.inl (some (.int r.1), pm m h r.2)) := by
  refine mr_of (by decide +kernel) (Nat.le_of_ble_eq_true rfl) (ct3 rfl rfl rfl) (fun X hG hl C E0 => ?_)
  subst hG hl
  rw [m_ask] at E
  refine r_aload_n (i := 0) C dX12_ask_0 rfl rfl (by first | rfl | exact isR_rf _) ?_
  refine r_aload_n (i := 0) C dX12_ask_1 rfl rfl (by first | rfl | exact isR_rf _) ?_
  refine r_iload_n (i := 1) C dX12_ask_2 rfl rfl ?_
  refine r_callVs C v_X12_174 (z_isRule _ _ hM) dX12_ask_3 hM.1 (ci := 10) (by decide) rfl rfl (As := [_]) rfl rfl rfl (by first | exact Nat.le_refl _ | exact Nat.le_of_ble_eq_true rfl | omega) (Nat.le_of_ble_eq_true rfl) (by first | exact Nat.le_refl _ | exact Nat.le_of_ble_eq_true rfl | omega) (by first | exact Nat.le_refl _ | exact Nat.le_of_ble_eq_true rfl | omega) ?_
  refine r_iload_n (i := 2) C dX12_ask_6 rfl rfl ?_
  refine r_iconst (v := (-1)) C dX12_ask_7 (by decide) ?_
  refine r_sipush (v := 2000) C dX12_ask_8 (by decide) ?_
  refine r_callSs C s_X12_129 (z_in _ _) dX12_ask_11 (As := [_, _, _]) rfl rfl rfl (by first | exact Nat.le_refl _ | exact Nat.le_of_ble_eq_true rfl | omega) (Nat.le_of_ble_eq_true rfl) (by first | exact Nat.le_refl _ | exact Nat.le_of_ble_eq_true rfl | omega) (by first | exact Nat.le_refl _ | exact Nat.le_of_ble_eq_true rfl | omega) ?_
  obtain ⟨p1, S2, q, E⟩ := bd2_elim E
  refine r_callVs C v_X12_153 (z_asked_ _ _ hM q) dX12_ask_14 hM.1 (ci := 10) (by decide) rfl rfl (As := [_, _]) rfl rfl rfl (by first | exact Nat.le_refl _ | exact Nat.le_of_ble_eq_true rfl | omega) (Nat.le_of_ble_eq_true rfl) (by first | exact Nat.le_refl _ | exact Nat.le_of_ble_eq_true rfl | omega) (by first | exact Nat.le_refl _ | exact Nat.le_of_ble_eq_true rfl | omega) ?_
  refine r_if_ne (tgt := 22) C dX12_ask_17 (by decide) (fun c_17 => ?_) (fun c_17 => ?_)
  · have E := ite_f E c_17
    refine r_aload_n (i := 0) C dX12_ask_22 rfl rfl (by first | rfl | exact isR_rf _) ?_
    obtain ⟨S3, q, E⟩ := bd_elim E
    refine r_callVn C v_X12_147 (z_keeps _ _ hM q) dX12_ask_23 hM.1 (ci := 10) (by decide) rfl rfl (As := []) rfl rfl rfl (by first | exact Nat.le_refl _ | exact Nat.le_of_ble_eq_true rfl | omega) (Nat.le_of_ble_eq_true rfl) (by first | exact Nat.le_refl _ | exact Nat.le_of_ble_eq_true rfl | omega) (by first | exact Nat.le_refl _ | exact Nat.le_of_ble_eq_true rfl | omega) ?_
    refine r_aload_n (i := 0) C dX12_ask_26 rfl rfl (by first | rfl | exact isR_rf _) ?_
    refine rm_ref (k := 19) C f_X12_63 dX12_ask_27 rfl rfl hM rfl ?_
    refine r_iload_n (i := 1) C dX12_ask_30 rfl rfl ?_
    obtain ⟨g5, E⟩ := gd_elim E
    refine rm_iald (k := 19) C dX12_ask_31 hM rfl rfl g5 ?_
    refine bnd_elim (P := fun (z : Int32) => wr X 0 0 32 [.ref m, .int a0, .int a1, (.long 0)] [.int z] (pm m h S3)) E (fun p6 E => ?_)
    refine r_istore_n (i := 3) C dX12_ask_32 rfl (Nat.le_of_ble_eq_true rfl) ?_
    refine r_aload_n (i := 0) C dX12_ask_33 rfl rfl (by first | rfl | exact isR_rf _) ?_
    refine rm_ref (k := 19) C f_X12_63 dX12_ask_34 rfl rfl hM rfl ?_
    refine r_iload_n (i := 1) C dX12_ask_37 rfl rfl ?_
    refine r_iload_n (i := 2) C dX12_ask_38 rfl rfl ?_
    refine rm_iast (k := 19) C dX12_ask_39 hM rfl rfl g5 ?_
    refine bnd_elim (P := fun (Z : MM) => wr X 0 0 40 [.ref m, .int a0, .int a1, .int p6] [] (pm m h Z)) E (fun S7 E => ?_)
    refine r_aload_n (i := 0) C dX12_ask_40 rfl rfl (by first | rfl | exact isR_rf _) ?_
    refine r_iconst (v := 0) C dX12_ask_41 (by decide) ?_
    refine rm_put (k := 33) C f_X12_136 dX12_ask_42 rfl rfl hM rfl ?_
    refine bnd_elim (P := fun (Z : MM) => wr X 0 0 45 [.ref m, .int a0, .int a1, .int p6] [] (pm m h Z)) E (fun S8 E => ?_)
    refine r_aload_n (i := 0) C dX12_ask_45 rfl rfl (by first | rfl | exact isR_rf _) ?_
    obtain ⟨S9, q, E⟩ := bd_elim E
    refine r_callVn C v_X12_150 (z_changes _ _ hM q) dX12_ask_46 hM.1 (ci := 10) (by decide) rfl rfl (As := []) rfl rfl rfl (by first | exact Nat.le_refl _ | exact Nat.le_of_ble_eq_true rfl | omega) (Nat.le_of_ble_eq_true rfl) (by first | exact Nat.le_refl _ | exact Nat.le_of_ble_eq_true rfl | omega) (by first | exact Nat.le_refl _ | exact Nat.le_of_ble_eq_true rfl | omega) ?_
    refine r_iload_n (i := 3) C dX12_ask_49 rfl rfl ?_
    obtain rfl := Option.some.inj E
    exact r_iret C E0 dX12_ask_50 rfl rfl (Nat.le_refl _) (Nat.le_refl _)
  · have E := ite_t E c_17
    refine r_iconst (v := 0) C dX12_ask_20 (by decide) ?_
    obtain rfl := Option.some.inj E
    exact r_iret C E0 dX12_ask_21 rfl rfl (Nat.le_refl _) (Nat.le_refl _)

def m_declares_71 (K0 : Int32 → Option (Int32 × MM)) (S : MM) (x1 x7 x9 : Int32) : Nat → Int32 → Int32 → Option (Int32 × MM)
  | 0, _, _ => none
  | fu + 1, x10, x11 => if x9 < x11 then (K0 x10) else (if x7 = (0 : Int32) then (K0 x10) else (if ix (((14 : Int32) * x1) + x11) 224 then bnd (if (S 20 (tn (((14 : Int32) * x1) + x11))) = (0 : Int32) then (1 : Int32) else (0 : Int32)) fun p25 => bnd (x10 + p25) fun p26 => (m_declares_71 K0 S x1 x7 x9 fu p26 (x11 + 1)) else none))
theorem z_declares_71 {X : Ctx} {m : Nat} {h : Hp} (C : Cx X yX12_declares cX12_declares 12 (Option.some Jvm.ClassFile.FieldType.int) [] 7 0 0) (hM : MW m h) {K0 : Int32 → Option (Int32 × MM)} {S : MM} {x1 x7 x9 : Int32} {v3 v4 v5 v6 v8 : Value} {r : Int32 × MM} (E0 : Ex X 0 0 (.inl (some (.int r.1), pm m h r.2))) : ∀ (fu : Nat) (x10 x11 : Int32) (u2 : Value) , m_declares_71 K0 S x1 x7 x9 fu x10 x11 = some r → (∀ (y10 : Int32) (u2 u11 : Value) , K0 y10 = some r → wr X 0 0 114 [.ref m, .int x1, u2, v3, v4, v5, v6, .int x7, v8, .int x9, .int y10, u11] [] (pm m h S)) → wr X 0 0 71 [.ref m, .int x1, u2, v3, v4, v5, v6, .int x7, v8, .int x9, .int x10, .int x11] [] (pm m h S) := by
  intro fu
  induction fu with
  | zero =>
    intro x10 x11 u2 E hK0
    rw [m_declares_71] at E
    cases E
  | succ fu ih =>
    intro x10 x11 u2 E hK0
    rw [m_declares_71] at E
    refine r_iload (i := 11) C dX12_declares_71 rfl ?_
    refine r_iload (i := 9) C dX12_declares_73 rfl ?_
    refine r_ic_gt (tgt := 114) C dX12_declares_75 (by decide) (fun c_75 => ?_) (fun c_75 => ?_)
    · have E := ite_t E c_75
      exact hK0 _ _ _ E
    · have E := ite_f E c_75
      refine r_iload (i := 7) C dX12_declares_78 rfl ?_
      refine r_if_eq (tgt := 114) C dX12_declares_80 (by decide) (fun c_80 => ?_) (fun c_80 => ?_)
      · have E := ite_t E c_80
        exact hK0 _ _ _ E
      · have E := ite_f E c_80
        refine r_iload (i := 10) C dX12_declares_83 rfl ?_
        refine r_aload_n (i := 0) C dX12_declares_85 rfl rfl (by first | rfl | exact isR_rf _) ?_
        refine rm_ref (k := 20) C f_X12_66 dX12_declares_86 rfl rfl hM rfl ?_
        refine r_bipush (v := 14) C dX12_declares_89 (by decide) ?_
        refine r_iload_n (i := 1) C dX12_declares_91 rfl rfl ?_
        refine r_imul C dX12_declares_92 ?_
        refine r_iload (i := 11) C dX12_declares_93 rfl ?_
        refine r_iadd C dX12_declares_95 ?_
        obtain ⟨g22, E⟩ := gd_elim E
        refine rm_iald (k := 20) C dX12_declares_96 hM rfl rfl g22 ?_
        have J24 : ∀ (u : Unit), wr X 0 0 105 [.ref m, .int x1, u2, v3, v4, v5, v6, .int x7, v8, .int x9, .int x10, .int x11] [.int (if (S 20 (tn (((14 : Int32) * x1) + x11))) = (0 : Int32) then (1 : Int32) else (0 : Int32)), .int x10] (pm m h S) := by
          intro u
          refine bnd_elim (P := fun (z : Int32) => wr X 0 0 105 [.ref m, .int x1, u2, v3, v4, v5, v6, .int x7, v8, .int x9, .int x10, .int x11] [.int z, .int x10] (pm m h S)) E (fun p25 E => ?_)
          refine r_iadd C dX12_declares_105 ?_
          refine bnd_elim (P := fun (z : Int32) => wr X 0 0 106 [.ref m, .int x1, u2, v3, v4, v5, v6, .int x7, v8, .int x9, .int x10, .int x11] [.int z] (pm m h S)) E (fun p26 E => ?_)
          refine r_istore (i := 10) C dX12_declares_106 (Nat.le_of_ble_eq_true rfl) ?_
          refine r_iinc1 (i := 11) C dX12_declares_108 rfl ?_
          refine r_goto (tgt := 71) C dX12_declares_111 (by decide) ?_
          exact ih _ _ _ E hK0
        refine r_if_ne (tgt := 104) C dX12_declares_97 (by decide) (fun c_97_k23 => ?_) (fun c_97_k23 => ?_)
        · refine r_iconst (v := 0) C dX12_declares_104 (by decide) ?_
          first | exact (J24  ()) | (simp only [if_neg c_97_k23] at J24; exact (J24  ()))
        · refine r_iconst (v := 1) C dX12_declares_100 (by decide) ?_
          refine r_goto (tgt := 105) C dX12_declares_101 (by decide) ?_
          first | exact (J24  ()) | (simp only [if_pos c_97_k23] at J24; exact (J24  ()))
def m_declares_146 (K0 : MM → Option (Int32 × MM)) (x1 x4 x5 x6 x9 : Int32) : Nat → Int32 → MM → Option (Int32 × MM)
  | 0, _, _ => none
  | fu + 1, x11, S => if x9 < x11 then (K0 S) else (if ix (((14 : Int32) * x1) + x11) 224 then bnd (u2 S 20 (tn (((14 : Int32) * x1) + x11)) x4) fun S37 => (bnd (u2 S37 21 (tn (((14 : Int32) * x1) + x11)) x5) fun S39 => (bnd (u2 S39 22 (tn (((14 : Int32) * x1) + x11)) x6) fun S40 => (m_declares_146 K0 x1 x4 x5 x6 x9 fu (x11 + 1) S40))) else none)
theorem z_declares_146 {X : Ctx} {m : Nat} {h : Hp} (C : Cx X yX12_declares cX12_declares 12 (Option.some Jvm.ClassFile.FieldType.int) [] 7 0 0) (hM : MW m h) {K0 : MM → Option (Int32 × MM)} {x1 x4 x5 x6 x9 : Int32} {v10 : Value} {r : Int32 × MM} (E0 : Ex X 0 0 (.inl (some (.int r.1), pm m h r.2))) : ∀ (fu : Nat) (x11 : Int32) (S : MM) (u2 u3 u7 u8 : Value) , m_declares_146 K0 x1 x4 x5 x6 x9 fu x11 S = some r → (∀ (S2 : MM) (u1 u2 u3 u4 u5 u6 u7 u8 u9 u11 : Value) , K0 S2 = some r → wr X 0 0 201 [.ref m, u1, u2, u3, u4, u5, u6, u7, u8, u9, v10, u11] [] (pm m h S2)) → wr X 0 0 146 [.ref m, .int x1, u2, u3, .int x4, .int x5, .int x6, u7, u8, .int x9, v10, .int x11] [] (pm m h S) := by
  intro fu
  induction fu with
  | zero =>
    intro x11 S u2 u3 u7 u8 E hK0
    rw [m_declares_146] at E
    cases E
  | succ fu ih =>
    intro x11 S u2 u3 u7 u8 E hK0
    rw [m_declares_146] at E
    refine r_iload (i := 11) C dX12_declares_146 rfl ?_
    refine r_iload (i := 9) C dX12_declares_148 rfl ?_
    refine r_ic_gt (tgt := 201) C dX12_declares_150 (by decide) (fun c_150 => ?_) (fun c_150 => ?_)
    · have E := ite_t E c_150
      exact hK0 _ _ _ _ _ _ _ _ _ _ _ E
    · have E := ite_f E c_150
      refine r_aload_n (i := 0) C dX12_declares_153 rfl rfl (by first | rfl | exact isR_rf _) ?_
      refine rm_ref (k := 20) C f_X12_66 dX12_declares_154 rfl rfl hM rfl ?_
      refine r_bipush (v := 14) C dX12_declares_157 (by decide) ?_
      refine r_iload_n (i := 1) C dX12_declares_159 rfl rfl ?_
      refine r_imul C dX12_declares_160 ?_
      refine r_iload (i := 11) C dX12_declares_161 rfl ?_
      refine r_iadd C dX12_declares_163 ?_
      refine r_iload (i := 4) C dX12_declares_164 rfl ?_
      obtain ⟨g38, E⟩ := gd_elim E
      refine rm_iast (k := 20) C dX12_declares_166 hM rfl rfl g38 ?_
      refine bnd_elim (P := fun (Z : MM) => wr X 0 0 167 [.ref m, .int x1, u2, u3, .int x4, .int x5, .int x6, u7, u8, .int x9, v10, .int x11] [] (pm m h Z)) E (fun S37 E => ?_)
      refine r_aload_n (i := 0) C dX12_declares_167 rfl rfl (by first | rfl | exact isR_rf _) ?_
      refine rm_ref (k := 21) C f_X12_69 dX12_declares_168 rfl rfl hM rfl ?_
      refine r_bipush (v := 14) C dX12_declares_171 (by decide) ?_
      refine r_iload_n (i := 1) C dX12_declares_173 rfl rfl ?_
      refine r_imul C dX12_declares_174 ?_
      refine r_iload (i := 11) C dX12_declares_175 rfl ?_
      refine r_iadd C dX12_declares_177 ?_
      refine r_iload (i := 5) C dX12_declares_178 rfl ?_
      refine rm_iast (k := 21) C dX12_declares_180 hM rfl rfl g38 ?_
      refine bnd_elim (P := fun (Z : MM) => wr X 0 0 181 [.ref m, .int x1, u2, u3, .int x4, .int x5, .int x6, u7, u8, .int x9, v10, .int x11] [] (pm m h Z)) E (fun S39 E => ?_)
      refine r_aload_n (i := 0) C dX12_declares_181 rfl rfl (by first | rfl | exact isR_rf _) ?_
      refine rm_ref (k := 22) C f_X12_72 dX12_declares_182 rfl rfl hM rfl ?_
      refine r_bipush (v := 14) C dX12_declares_185 (by decide) ?_
      refine r_iload_n (i := 1) C dX12_declares_187 rfl rfl ?_
      refine r_imul C dX12_declares_188 ?_
      refine r_iload (i := 11) C dX12_declares_189 rfl ?_
      refine r_iadd C dX12_declares_191 ?_
      refine r_iload (i := 6) C dX12_declares_192 rfl ?_
      refine rm_iast (k := 22) C dX12_declares_194 hM rfl rfl g38 ?_
      refine bnd_elim (P := fun (Z : MM) => wr X 0 0 195 [.ref m, .int x1, u2, u3, .int x4, .int x5, .int x6, u7, u8, .int x9, v10, .int x11] [] (pm m h Z)) E (fun S40 E => ?_)
      refine r_iinc1 (i := 11) C dX12_declares_195 rfl ?_
      refine r_goto (tgt := 146) C dX12_declares_198 (by decide) ?_
      exact ih _ _ _ _ _ _ E hK0
def m_declares (S : MM) (a0 : Int32) (a1 : Int32) (a2 : Int32) (a3 : Int32) (a4 : Int32) (a5 : Int32) : Option (Int32 × MM) := bnd (if (m_isRule S a0) = (0 : Int32) then (0 : Int32) else if (m_in a1 (0 : Int32) (14 : Int32)) = (0 : Int32) then (0 : Int32) else (1 : Int32)) fun p4 => (bnd (if a1 = (14 : Int32) then (3 : Int32) else a1) fun p7 => (bnd (if a1 = (14 : Int32) then (4 : Int32) else a1) fun p10 => (if p4 = (0 : Int32) then (m_declares_71 (fun p27 => bnd (if (6 : Int32) < p27 then (0 : Int32) else (1 : Int32)) fun p32 => bd2 (m_asked__ S p4 a2 p32) fun p33 S34 => (if p33 = (0 : Int32) then (some ((0 : Int32), S34)) else (bd (m_keeps S34) fun S35 => (m_declares_146 (fun S51 => bnd (u2 S51 33 0 (0 : Int32)) fun S52 => (bd (m_changes S52) fun S53 => (some (p27, S53)))) a0 a3 a4 a5 p10 1000 p7 S35)))) S a0 p4 p10 1000 (0 : Int32) p7) else (bd (m_declared S a0) fun p54 => (m_declares_71 (fun p55 => bnd (if (6 : Int32) < p55 then (0 : Int32) else (1 : Int32)) fun p60 => bd2 (m_asked__ S p4 a2 p60) fun p61 S62 => (if p61 = (0 : Int32) then (some ((0 : Int32), S62)) else (bd (m_keeps S62) fun S63 => (m_declares_146 (fun S74 => bnd (u2 S74 33 0 (0 : Int32)) fun S75 => (bd (m_changes S75) fun S76 => (some (p55, S76)))) a0 a3 a4 a5 p10 1000 p7 S63)))) S a0 p4 p10 1000 p54 p7)))))
theorem z_declares (l : Launch) (G : Gl) {m : Nat} {h : Hp} (hM : MW m h) {S : MM} {a0 a1 a2 a3 a4 a5 : Int32} {r : Int32 × MM} (E : m_declares S a0 a1 a2 a3 a4 a5 = some r) : MRw l G yX12_declares (.code yX12_declares cX12_declares 12 (Option.some Jvm.ClassFile.FieldType.int)) 7 0 0 [.ref m, .int a0, .int a1, .int a2, .int a3, .int a4, .int a5] (pm m h S) (.inl (some (.int r.1), pm m h r.2)) := by
  refine mr_of (by decide +kernel) (Nat.le_of_ble_eq_true rfl) (ct7 rfl rfl rfl rfl rfl rfl rfl) (fun X hG hl C E0 => ?_)
  subst hG hl
  rw [m_declares] at E
  refine r_aload_n (i := 0) C dX12_declares_0 rfl rfl (by first | rfl | exact isR_rf _) ?_
  refine r_iload_n (i := 1) C dX12_declares_1 rfl rfl ?_
  refine r_callVs C v_X12_174 (z_isRule _ _ hM) dX12_declares_2 hM.1 (ci := 10) (by decide) rfl rfl (As := [_]) rfl rfl rfl (by first | exact Nat.le_refl _ | exact Nat.le_of_ble_eq_true rfl | omega) (Nat.le_of_ble_eq_true rfl) (by first | exact Nat.le_refl _ | exact Nat.le_of_ble_eq_true rfl | omega) (by first | exact Nat.le_refl _ | exact Nat.le_of_ble_eq_true rfl | omega) ?_
  have J3 : ∀ (u : Unit), wr X 0 0 23 [.ref m, .int a0, .int a1, .int a2, .int a3, .int a4, .int a5, (.long 0), (.long 0), (.long 0), (.long 0), (.long 0)] [.int (if (m_isRule S a0) = (0 : Int32) then (0 : Int32) else if (m_in a1 (0 : Int32) (14 : Int32)) = (0 : Int32) then (0 : Int32) else (1 : Int32))] (pm m h S) := by
    intro u
    refine bnd_elim (P := fun (z : Int32) => wr X 0 0 23 [.ref m, .int a0, .int a1, .int a2, .int a3, .int a4, .int a5, (.long 0), (.long 0), (.long 0), (.long 0), (.long 0)] [.int z] (pm m h S)) E (fun p4 E => ?_)
    refine r_istore (i := 7) C dX12_declares_23 (Nat.le_of_ble_eq_true rfl) ?_
    refine r_iload_n (i := 2) C dX12_declares_25 rfl rfl ?_
    refine r_bipush (v := 14) C dX12_declares_26 (by decide) ?_
    have J6 : ∀ (u : Unit), wr X 0 0 36 [.ref m, .int a0, .int a1, .int a2, .int a3, .int a4, .int a5, .int p4, (.long 0), (.long 0), (.long 0), (.long 0)] [.int (if a1 = (14 : Int32) then (3 : Int32) else a1)] (pm m h S) := by
      intro u
      refine bnd_elim (P := fun (z : Int32) => wr X 0 0 36 [.ref m, .int a0, .int a1, .int a2, .int a3, .int a4, .int a5, .int p4, (.long 0), (.long 0), (.long 0), (.long 0)] [.int z] (pm m h S)) E (fun p7 E => ?_)
      refine r_istore (i := 8) C dX12_declares_36 (Nat.le_of_ble_eq_true rfl) ?_
      refine r_iload_n (i := 2) C dX12_declares_38 rfl rfl ?_
      refine r_bipush (v := 14) C dX12_declares_39 (by decide) ?_
      have J9 : ∀ (u : Unit), wr X 0 0 49 [.ref m, .int a0, .int a1, .int a2, .int a3, .int a4, .int a5, .int p4, .int p7, (.long 0), (.long 0), (.long 0)] [.int (if a1 = (14 : Int32) then (4 : Int32) else a1)] (pm m h S) := by
        intro u
        refine bnd_elim (P := fun (z : Int32) => wr X 0 0 49 [.ref m, .int a0, .int a1, .int a2, .int a3, .int a4, .int a5, .int p4, .int p7, (.long 0), (.long 0), (.long 0)] [.int z] (pm m h S)) E (fun p10 E => ?_)
        refine r_istore (i := 9) C dX12_declares_49 (Nat.le_of_ble_eq_true rfl) ?_
        refine r_iload (i := 7) C dX12_declares_51 rfl ?_
        refine r_if_eq (tgt := 64) C dX12_declares_53 (by decide) (fun c_53 => ?_) (fun c_53 => ?_)
        · have E := ite_t E c_53
          refine r_iconst (v := 0) C dX12_declares_64 (by decide) ?_
          refine r_istore (i := 10) C dX12_declares_65 (Nat.le_of_ble_eq_true rfl) ?_
          refine r_iload (i := 8) C dX12_declares_67 rfl ?_
          refine r_istore (i := 11) C dX12_declares_69 (Nat.le_of_ble_eq_true rfl) ?_
          refine z_declares_71 C hM E0 _ _ _ _ E (fun p27 w28 w29 E => ?_)
          refine r_aload_n (i := 0) C dX12_declares_114 rfl rfl (by first | rfl | exact isR_rf _) ?_
          refine r_iload (i := 7) C dX12_declares_115 rfl ?_
          refine r_iload_n (i := 3) C dX12_declares_117 rfl rfl ?_
          refine r_iload (i := 10) C dX12_declares_118 rfl ?_
          refine r_bipush (v := 6) C dX12_declares_120 (by decide) ?_
          have J31 : ∀ (u : Unit), wr X 0 0 130 [.ref m, .int a0, w28, .int a2, .int a3, .int a4, .int a5, .int p4, .int p7, .int p10, .int p27, w29] [.int (if (6 : Int32) < p27 then (0 : Int32) else (1 : Int32)), .int a2, .int p4, .ref m] (pm m h S) := by
            intro u
            refine bnd_elim (P := fun (z : Int32) => wr X 0 0 130 [.ref m, .int a0, w28, .int a2, .int a3, .int a4, .int a5, .int p4, .int p7, .int p10, .int p27, w29] [.int z, .int a2, .int p4, .ref m] (pm m h S)) E (fun p32 E => ?_)
            obtain ⟨p33, S34, q, E⟩ := bd2_elim E
            refine r_callVs C v_X12_143 (z_asked__ _ _ hM q) dX12_declares_130 hM.1 (ci := 10) (by decide) rfl rfl (As := [_, _, _]) rfl rfl rfl (by first | exact Nat.le_refl _ | exact Nat.le_of_ble_eq_true rfl | omega) (Nat.le_of_ble_eq_true rfl) (by first | exact Nat.le_refl _ | exact Nat.le_of_ble_eq_true rfl | omega) (by first | exact Nat.le_refl _ | exact Nat.le_of_ble_eq_true rfl | omega) ?_
            refine r_if_ne (tgt := 138) C dX12_declares_133 (by decide) (fun c_133 => ?_) (fun c_133 => ?_)
            · have E := ite_f E c_133
              refine r_aload_n (i := 0) C dX12_declares_138 rfl rfl (by first | rfl | exact isR_rf _) ?_
              obtain ⟨S35, q, E⟩ := bd_elim E
              refine r_callVn C v_X12_147 (z_keeps _ _ hM q) dX12_declares_139 hM.1 (ci := 10) (by decide) rfl rfl (As := []) rfl rfl rfl (by first | exact Nat.le_refl _ | exact Nat.le_of_ble_eq_true rfl | omega) (Nat.le_of_ble_eq_true rfl) (by first | exact Nat.le_refl _ | exact Nat.le_of_ble_eq_true rfl | omega) (by first | exact Nat.le_refl _ | exact Nat.le_of_ble_eq_true rfl | omega) ?_
              refine r_iload (i := 8) C dX12_declares_142 rfl ?_
              refine r_istore (i := 11) C dX12_declares_144 (Nat.le_of_ble_eq_true rfl) ?_
              refine z_declares_146 C hM E0 _ _ _ _ _ _ _ E (fun S51 w41 w42 w43 w44 w45 w46 w47 w48 w49 w50 E => ?_)
              refine r_aload_n (i := 0) C dX12_declares_201 rfl rfl (by first | rfl | exact isR_rf _) ?_
              refine r_iconst (v := 0) C dX12_declares_202 (by decide) ?_
              refine rm_put (k := 33) C f_X12_136 dX12_declares_203 rfl rfl hM rfl ?_
              refine bnd_elim (P := fun (Z : MM) => wr X 0 0 206 [.ref m, w41, w42, w43, w44, w45, w46, w47, w48, w49, .int p27, w50] [] (pm m h Z)) E (fun S52 E => ?_)
              refine r_aload_n (i := 0) C dX12_declares_206 rfl rfl (by first | rfl | exact isR_rf _) ?_
              obtain ⟨S53, q, E⟩ := bd_elim E
              refine r_callVn C v_X12_150 (z_changes _ _ hM q) dX12_declares_207 hM.1 (ci := 10) (by decide) rfl rfl (As := []) rfl rfl rfl (by first | exact Nat.le_refl _ | exact Nat.le_of_ble_eq_true rfl | omega) (Nat.le_of_ble_eq_true rfl) (by first | exact Nat.le_refl _ | exact Nat.le_of_ble_eq_true rfl | omega) (by first | exact Nat.le_refl _ | exact Nat.le_of_ble_eq_true rfl | omega) ?_
              refine r_iload (i := 10) C dX12_declares_210 rfl ?_
              obtain rfl := Option.some.inj E
              exact r_iret C E0 dX12_declares_212 rfl rfl (Nat.le_refl _) (Nat.le_refl _)
            · have E := ite_t E c_133
              refine r_iconst (v := 0) C dX12_declares_136 (by decide) ?_
              obtain rfl := Option.some.inj E
              exact r_iret C E0 dX12_declares_137 rfl rfl (Nat.le_refl _) (Nat.le_refl _)
          refine r_ic_gt (tgt := 129) C dX12_declares_122 (by decide) (fun c_122_k30 => ?_) (fun c_122_k30 => ?_)
          · refine r_iconst (v := 0) C dX12_declares_129 (by decide) ?_
            first | exact (J31  ()) | (simp only [if_pos c_122_k30] at J31; exact (J31  ()))
          · refine r_iconst (v := 1) C dX12_declares_125 (by decide) ?_
            refine r_goto (tgt := 130) C dX12_declares_126 (by decide) ?_
            first | exact (J31  ()) | (simp only [if_neg c_122_k30] at J31; exact (J31  ()))
        · have E := ite_f E c_53
          refine r_aload_n (i := 0) C dX12_declares_56 rfl rfl (by first | rfl | exact isR_rf _) ?_
          refine r_iload_n (i := 1) C dX12_declares_57 rfl rfl ?_
          obtain ⟨p54, q, E⟩ := bd_elim E
          refine r_callVs C v_X12_181 (z_declared _ _ hM q) dX12_declares_58 hM.1 (ci := 10) (by decide) rfl rfl (As := [_]) rfl rfl rfl (by first | exact Nat.le_refl _ | exact Nat.le_of_ble_eq_true rfl | omega) (Nat.le_of_ble_eq_true rfl) (by first | exact Nat.le_refl _ | exact Nat.le_of_ble_eq_true rfl | omega) (by first | exact Nat.le_refl _ | exact Nat.le_of_ble_eq_true rfl | omega) ?_
          refine r_goto (tgt := 65) C dX12_declares_61 (by decide) ?_
          refine r_istore (i := 10) C dX12_declares_65 (Nat.le_of_ble_eq_true rfl) ?_
          refine r_iload (i := 8) C dX12_declares_67 rfl ?_
          refine r_istore (i := 11) C dX12_declares_69 (Nat.le_of_ble_eq_true rfl) ?_
          refine z_declares_71 C hM E0 _ _ _ _ E (fun p55 w56 w57 E => ?_)
          refine r_aload_n (i := 0) C dX12_declares_114 rfl rfl (by first | rfl | exact isR_rf _) ?_
          refine r_iload (i := 7) C dX12_declares_115 rfl ?_
          refine r_iload_n (i := 3) C dX12_declares_117 rfl rfl ?_
          refine r_iload (i := 10) C dX12_declares_118 rfl ?_
          refine r_bipush (v := 6) C dX12_declares_120 (by decide) ?_
          have J59 : ∀ (u : Unit), wr X 0 0 130 [.ref m, .int a0, w56, .int a2, .int a3, .int a4, .int a5, .int p4, .int p7, .int p10, .int p55, w57] [.int (if (6 : Int32) < p55 then (0 : Int32) else (1 : Int32)), .int a2, .int p4, .ref m] (pm m h S) := by
            intro u
            refine bnd_elim (P := fun (z : Int32) => wr X 0 0 130 [.ref m, .int a0, w56, .int a2, .int a3, .int a4, .int a5, .int p4, .int p7, .int p10, .int p55, w57] [.int z, .int a2, .int p4, .ref m] (pm m h S)) E (fun p60 E => ?_)
            obtain ⟨p61, S62, q, E⟩ := bd2_elim E
            refine r_callVs C v_X12_143 (z_asked__ _ _ hM q) dX12_declares_130 hM.1 (ci := 10) (by decide) rfl rfl (As := [_, _, _]) rfl rfl rfl (by first | exact Nat.le_refl _ | exact Nat.le_of_ble_eq_true rfl | omega) (Nat.le_of_ble_eq_true rfl) (by first | exact Nat.le_refl _ | exact Nat.le_of_ble_eq_true rfl | omega) (by first | exact Nat.le_refl _ | exact Nat.le_of_ble_eq_true rfl | omega) ?_
            refine r_if_ne (tgt := 138) C dX12_declares_133 (by decide) (fun c_133 => ?_) (fun c_133 => ?_)
            · have E := ite_f E c_133
              refine r_aload_n (i := 0) C dX12_declares_138 rfl rfl (by first | rfl | exact isR_rf _) ?_
              obtain ⟨S63, q, E⟩ := bd_elim E
              refine r_callVn C v_X12_147 (z_keeps _ _ hM q) dX12_declares_139 hM.1 (ci := 10) (by decide) rfl rfl (As := []) rfl rfl rfl (by first | exact Nat.le_refl _ | exact Nat.le_of_ble_eq_true rfl | omega) (Nat.le_of_ble_eq_true rfl) (by first | exact Nat.le_refl _ | exact Nat.le_of_ble_eq_true rfl | omega) (by first | exact Nat.le_refl _ | exact Nat.le_of_ble_eq_true rfl | omega) ?_
              refine r_iload (i := 8) C dX12_declares_142 rfl ?_
              refine r_istore (i := 11) C dX12_declares_144 (Nat.le_of_ble_eq_true rfl) ?_
              refine z_declares_146 C hM E0 _ _ _ _ _ _ _ E (fun S74 w64 w65 w66 w67 w68 w69 w70 w71 w72 w73 E => ?_)
              refine r_aload_n (i := 0) C dX12_declares_201 rfl rfl (by first | rfl | exact isR_rf _) ?_
              refine r_iconst (v := 0) C dX12_declares_202 (by decide) ?_
              refine rm_put (k := 33) C f_X12_136 dX12_declares_203 rfl rfl hM rfl ?_
              refine bnd_elim (P := fun (Z : MM) => wr X 0 0 206 [.ref m, w64, w65, w66, w67, w68, w69, w70, w71, w72, .int p55, w73] [] (pm m h Z)) E (fun S75 E => ?_)
              refine r_aload_n (i := 0) C dX12_declares_206 rfl rfl (by first | rfl | exact isR_rf _) ?_
              obtain ⟨S76, q, E⟩ := bd_elim E
              refine r_callVn C v_X12_150 (z_changes _ _ hM q) dX12_declares_207 hM.1 (ci := 10) (by decide) rfl rfl (As := []) rfl rfl rfl (by first | exact Nat.le_refl _ | exact Nat.le_of_ble_eq_true rfl | omega) (Nat.le_of_ble_eq_true rfl) (by first | exact Nat.le_refl _ | exact Nat.le_of_ble_eq_true rfl | omega) (by first | exact Nat.le_refl _ | exact Nat.le_of_ble_eq_true rfl | omega) ?_
              refine r_iload (i := 10) C dX12_declares_210 rfl ?_
              obtain rfl := Option.some.inj E
              exact r_iret C E0 dX12_declares_212 rfl rfl (Nat.le_refl _) (Nat.le_refl _)
            · have E := ite_t E c_133
              refine r_iconst (v := 0) C dX12_declares_136 (by decide) ?_
              obtain rfl := Option.some.inj E
              exact r_iret C E0 dX12_declares_137 rfl rfl (Nat.le_refl _) (Nat.le_refl _)
          refine r_ic_gt (tgt := 129) C dX12_declares_122 (by decide) (fun c_122_k58 => ?_) (fun c_122_k58 => ?_)
          · refine r_iconst (v := 0) C dX12_declares_129 (by decide) ?_
            first | exact (J59  ()) | (simp only [if_pos c_122_k58] at J59; exact (J59  ()))
          · refine r_iconst (v := 1) C dX12_declares_125 (by decide) ?_
            refine r_goto (tgt := 130) C dX12_declares_126 (by decide) ?_
            first | exact (J59  ()) | (simp only [if_neg c_122_k58] at J59; exact (J59  ()))
      refine r_ic_ne (tgt := 48) C dX12_declares_41 (by decide) (fun c_41_k8 => ?_) (fun c_41_k8 => ?_)
      · refine r_iload_n (i := 2) C dX12_declares_48 rfl rfl ?_
        first | exact (J9  ()) | (simp only [if_neg c_41_k8] at J9; exact (J9  ()))
      · refine r_iconst (v := 4) C dX12_declares_44 (by decide) ?_
        refine r_goto (tgt := 49) C dX12_declares_45 (by decide) ?_
        first | exact (J9  ()) | (simp only [if_pos c_41_k8] at J9; exact (J9  ()))
    refine r_ic_ne (tgt := 35) C dX12_declares_28 (by decide) (fun c_28_k5 => ?_) (fun c_28_k5 => ?_)
    · refine r_iload_n (i := 2) C dX12_declares_35 rfl rfl ?_
      first | exact (J6  ()) | (simp only [if_neg c_28_k5] at J6; exact (J6  ()))
    · refine r_iconst (v := 3) C dX12_declares_31 (by decide) ?_
      refine r_goto (tgt := 36) C dX12_declares_32 (by decide) ?_
      first | exact (J6  ()) | (simp only [if_pos c_28_k5] at J6; exact (J6  ()))
  refine r_if_eq (tgt := 22) C dX12_declares_5 (by decide) (fun c_5_k1 => ?_) (fun c_5_k1 => ?_)
  · refine r_iconst (v := 0) C dX12_declares_22 (by decide) ?_
    first | exact (J3  ()) | (simp only [if_pos c_5_k1] at J3; exact (J3  ()))
  · refine r_iload_n (i := 2) C dX12_declares_8 rfl rfl ?_
    refine r_iconst (v := 0) C dX12_declares_9 (by decide) ?_
    refine r_bipush (v := 14) C dX12_declares_10 (by decide) ?_
    refine r_callSs C s_X12_129 (z_in _ _) dX12_declares_12 (As := [_, _, _]) rfl rfl rfl (by first | exact Nat.le_refl _ | exact Nat.le_of_ble_eq_true rfl | omega) (Nat.le_of_ble_eq_true rfl) (by first | exact Nat.le_refl _ | exact Nat.le_of_ble_eq_true rfl | omega) (by first | exact Nat.le_refl _ | exact Nat.le_of_ble_eq_true rfl | omega) ?_
    refine r_if_eq (tgt := 22) C dX12_declares_15 (by decide) (fun c_15_k2 => ?_) (fun c_15_k2 => ?_)
    · refine r_iconst (v := 0) C dX12_declares_22 (by decide) ?_
      first | exact (J3  ()) | (simp only [if_neg c_5_k1, if_pos c_15_k2] at J3; exact (J3  ()))
    · refine r_iconst (v := 1) C dX12_declares_18 (by decide) ?_
      refine r_goto (tgt := 23) C dX12_declares_19 (by decide) ?_
      first | exact (J3  ()) | (simp only [if_neg c_5_k1, if_neg c_15_k2] at J3; exact (J3  ()))

def m_declare (S : MM) (a0 : Int32) (a1 : Int32) (a2 : Int32) : Option (Int32 × MM) := bnd (if (m_canBe a1 a2) = (0 : Int32) then if (2 : Int32) < a1 then (0 : Int32) else if a2 = ((-2) : Int32) then (1 : Int32) else (0 : Int32) else (1 : Int32)) fun p5 => bd2 (m_declares S a0 a1 p5 (1 : Int32) a2 ((-1) : Int32)) fun p6 S7 => (some (p6, S7))
theorem z_declare (l : Launch) (G : Gl) {m : Nat} {h : Hp} (hM : MW m h) {S : MM} {a0 a1 a2 : Int32} {r : Int32 × MM} (E : m_declare S a0 a1 a2 = some r) : MRw l G yX12_declare (.code yX12_declare cX12_declare 4 (Option.some Jvm.ClassFile.FieldType.int)) 8 0 0 [.ref m, .int a0, .int a1, .int a2] (pm m h S) (.inl (some (.int r.1), pm m h r.2)) := by
  refine mr_of (by decide +kernel) (Nat.le_of_ble_eq_true rfl) (ct4 rfl rfl rfl rfl) (fun X hG hl C E0 => ?_)
  subst hG hl
  rw [m_declare] at E
  refine r_aload_n (i := 0) C dX12_declare_0 rfl rfl (by first | rfl | exact isR_rf _) ?_
  refine r_iload_n (i := 1) C dX12_declare_1 rfl rfl ?_
  refine r_iload_n (i := 2) C dX12_declare_2 rfl rfl ?_
  refine r_iload_n (i := 2) C dX12_declare_3 rfl rfl ?_
  refine r_iload_n (i := 3) C dX12_declare_4 rfl rfl ?_
  refine r_callSs C s_X12_184 (z_canBe _ _) dX12_declare_5 (As := [_, _]) rfl rfl rfl (by first | exact Nat.le_refl _ | exact Nat.le_of_ble_eq_true rfl | omega) (Nat.le_of_ble_eq_true rfl) (by first | exact Nat.le_refl _ | exact Nat.le_of_ble_eq_true rfl | omega) (by first | exact Nat.le_refl _ | exact Nat.le_of_ble_eq_true rfl | omega) ?_
  have J4 : ∀ (u : Unit), wr X 0 0 27 [.ref m, .int a0, .int a1, .int a2] [.int (if (m_canBe a1 a2) = (0 : Int32) then if (2 : Int32) < a1 then (0 : Int32) else if a2 = ((-2) : Int32) then (1 : Int32) else (0 : Int32) else (1 : Int32)), .int a1, .int a0, .ref m] (pm m h S) := by
    intro u
    refine bnd_elim (P := fun (z : Int32) => wr X 0 0 27 [.ref m, .int a0, .int a1, .int a2] [.int z, .int a1, .int a0, .ref m] (pm m h S)) E (fun p5 E => ?_)
    refine r_iconst (v := 1) C dX12_declare_27 (by decide) ?_
    refine r_iload_n (i := 3) C dX12_declare_28 rfl rfl ?_
    refine r_iconst (v := (-1)) C dX12_declare_29 (by decide) ?_
    obtain ⟨p6, S7, q, E⟩ := bd2_elim E
    refine r_callVs C v_X12_187 (z_declares _ _ hM q) dX12_declare_30 hM.1 (ci := 10) (by decide) rfl rfl (As := [_, _, _, _, _, _]) rfl rfl rfl (by first | exact Nat.le_refl _ | exact Nat.le_of_ble_eq_true rfl | omega) (Nat.le_of_ble_eq_true rfl) (by first | exact Nat.le_refl _ | exact Nat.le_of_ble_eq_true rfl | omega) (by first | exact Nat.le_refl _ | exact Nat.le_of_ble_eq_true rfl | omega) ?_
    obtain rfl := Option.some.inj E
    exact r_iret C E0 dX12_declare_33 rfl rfl (Nat.le_refl _) (Nat.le_refl _)
  refine r_if_ne (tgt := 22) C dX12_declare_8 (by decide) (fun c_8_k1 => ?_) (fun c_8_k1 => ?_)
  · refine r_iconst (v := 1) C dX12_declare_22 (by decide) ?_
    refine r_goto (tgt := 27) C dX12_declare_23 (by decide) ?_
    first | exact (J4  ()) | (simp only [if_neg c_8_k1] at J4; exact (J4  ()))
  · refine r_iload_n (i := 2) C dX12_declare_11 rfl rfl ?_
    refine r_iconst (v := 2) C dX12_declare_12 (by decide) ?_
    refine r_ic_gt (tgt := 26) C dX12_declare_13 (by decide) (fun c_13_k2 => ?_) (fun c_13_k2 => ?_)
    · refine r_iconst (v := 0) C dX12_declare_26 (by decide) ?_
      first | exact (J4  ()) | (simp only [if_pos c_8_k1, if_pos c_13_k2] at J4; exact (J4  ()))
    · refine r_iload_n (i := 3) C dX12_declare_16 rfl rfl ?_
      refine r_bipush (v := (-2)) C dX12_declare_17 (by decide) ?_
      refine r_ic_ne (tgt := 26) C dX12_declare_19 (by decide) (fun c_19_k3 => ?_) (fun c_19_k3 => ?_)
      · refine r_iconst (v := 0) C dX12_declare_26 (by decide) ?_
        first | exact (J4  ()) | (simp only [if_pos c_8_k1, if_neg c_13_k2, if_neg c_19_k3] at J4; exact (J4  ()))
      · refine r_iconst (v := 1) C dX12_declare_22 (by decide) ?_
        refine r_goto (tgt := 27) C dX12_declare_23 (by decide) ?_
        first | exact (J4  ()) | (simp only [if_pos c_8_k1, if_neg c_13_k2, if_pos c_19_k3] at J4; exact (J4  ()))

def m_say (S : MM) (a0 : Int32) (a1 : Int32) (a2 : Int32) : Option (Int32 × MM) := bd2 (m_declares S a0 a1 (m_in a2 (0 : Int32) (3 : Int32)) (2 : Int32) a2 ((-1) : Int32)) fun p1 S2 => (some (p1, S2))
theorem z_say (l : Launch) (G : Gl) {m : Nat} {h : Hp} (hM : MW m h) {S : MM} {a0 a1 a2 : Int32} {r : Int32 × MM} (E : m_say S a0 a1 a2 = some r) : MRw l G yX12_say (.code yX12_say cX12_say 4 (Option.some Jvm.ClassFile.FieldType.int)) 8 0 0 [.ref m, .int a0, .int a1, .int a2] (pm m h S) (.inl (some (.int r.1), pm m h r.2)) := by
  refine mr_of (by decide +kernel) (Nat.le_of_ble_eq_true rfl) (ct4 rfl rfl rfl rfl) (fun X hG hl C E0 => ?_)
  subst hG hl
  rw [m_say] at E
  refine r_aload_n (i := 0) C dX12_say_0 rfl rfl (by first | rfl | exact isR_rf _) ?_
  refine r_iload_n (i := 1) C dX12_say_1 rfl rfl ?_
  refine r_iload_n (i := 2) C dX12_say_2 rfl rfl ?_
  refine r_iload_n (i := 3) C dX12_say_3 rfl rfl ?_
  refine r_iconst (v := 0) C dX12_say_4 (by decide) ?_
  refine r_iconst (v := 3) C dX12_say_5 (by decide) ?_
  refine r_callSs C s_X12_129 (z_in _ _) dX12_say_6 (As := [_, _, _]) rfl rfl rfl (by first | exact Nat.le_refl _ | exact Nat.le_of_ble_eq_true rfl | omega) (Nat.le_of_ble_eq_true rfl) (by first | exact Nat.le_refl _ | exact Nat.le_of_ble_eq_true rfl | omega) (by first | exact Nat.le_refl _ | exact Nat.le_of_ble_eq_true rfl | omega) ?_
  refine r_iconst (v := 2) C dX12_say_9 (by decide) ?_
  refine r_iload_n (i := 3) C dX12_say_10 rfl rfl ?_
  refine r_iconst (v := (-1)) C dX12_say_11 (by decide) ?_
  obtain ⟨p1, S2, q, E⟩ := bd2_elim E
  refine r_callVs C v_X12_187 (z_declares _ _ hM q) dX12_say_12 hM.1 (ci := 10) (by decide) rfl rfl (As := [_, _, _, _, _, _]) rfl rfl rfl (by first | exact Nat.le_refl _ | exact Nat.le_of_ble_eq_true rfl | omega) (Nat.le_of_ble_eq_true rfl) (by first | exact Nat.le_refl _ | exact Nat.le_of_ble_eq_true rfl | omega) (by first | exact Nat.le_refl _ | exact Nat.le_of_ble_eq_true rfl | omega) ?_
  obtain rfl := Option.some.inj E
  exact r_iret C E0 dX12_say_15 rfl rfl (Nat.le_refl _) (Nat.le_refl _)

def m_refer (S : MM) (a0 : Int32) (a1 : Int32) (a2 : Int32) (a3 : Int32) : Option (Int32 × MM) := bnd (if (m_in a2 (0 : Int32) (3 : Int32)) = (0 : Int32) then (0 : Int32) else if a3 = ((-1) : Int32) then (1 : Int32) else if (m_canBe a1 a3) = (0 : Int32) then (0 : Int32) else (1 : Int32)) fun p5 => bd2 (m_declares S a0 a1 p5 (3 : Int32) a2 a3) fun p6 S7 => (some (p6, S7))
theorem z_refer (l : Launch) (G : Gl) {m : Nat} {h : Hp} (hM : MW m h) {S : MM} {a0 a1 a2 a3 : Int32} {r : Int32 × MM} (E : m_refer S a0 a1 a2 a3 = some r) : MRw l G yX12_refer (.code yX12_refer cX12_refer 5 (Option.some Jvm.ClassFile.FieldType.int)) 8 0 0 [.ref m, .int a0, .int a1, .int a2, .int a3] (pm m h S) (.inl (some (.int r.1), pm m h r.2)) := by
  refine mr_of (by decide +kernel) (Nat.le_of_ble_eq_true rfl) (ct5 rfl rfl rfl rfl rfl) (fun X hG hl C E0 => ?_)
  subst hG hl
  rw [m_refer] at E
  refine r_aload_n (i := 0) C dX12_refer_0 rfl rfl (by first | rfl | exact isR_rf _) ?_
  refine r_iload_n (i := 1) C dX12_refer_1 rfl rfl ?_
  refine r_iload_n (i := 2) C dX12_refer_2 rfl rfl ?_
  refine r_iload_n (i := 3) C dX12_refer_3 rfl rfl ?_
  refine r_iconst (v := 0) C dX12_refer_4 (by decide) ?_
  refine r_iconst (v := 3) C dX12_refer_5 (by decide) ?_
  refine r_callSs C s_X12_129 (z_in _ _) dX12_refer_6 (As := [_, _, _]) rfl rfl rfl (by first | exact Nat.le_refl _ | exact Nat.le_of_ble_eq_true rfl | omega) (Nat.le_of_ble_eq_true rfl) (by first | exact Nat.le_refl _ | exact Nat.le_of_ble_eq_true rfl | omega) (by first | exact Nat.le_refl _ | exact Nat.le_of_ble_eq_true rfl | omega) ?_
  have J4 : ∀ (u : Unit), wr X 0 0 32 [.ref m, .int a0, .int a1, .int a2, .int a3] [.int (if (m_in a2 (0 : Int32) (3 : Int32)) = (0 : Int32) then (0 : Int32) else if a3 = ((-1) : Int32) then (1 : Int32) else if (m_canBe a1 a3) = (0 : Int32) then (0 : Int32) else (1 : Int32)), .int a1, .int a0, .ref m] (pm m h S) := by
    intro u
    refine bnd_elim (P := fun (z : Int32) => wr X 0 0 32 [.ref m, .int a0, .int a1, .int a2, .int a3] [.int z, .int a1, .int a0, .ref m] (pm m h S)) E (fun p5 E => ?_)
    refine r_iconst (v := 3) C dX12_refer_32 (by decide) ?_
    refine r_iload_n (i := 3) C dX12_refer_33 rfl rfl ?_
    refine r_iload (i := 4) C dX12_refer_34 rfl ?_
    obtain ⟨p6, S7, q, E⟩ := bd2_elim E
    refine r_callVs C v_X12_187 (z_declares _ _ hM q) dX12_refer_36 hM.1 (ci := 10) (by decide) rfl rfl (As := [_, _, _, _, _, _]) rfl rfl rfl (by first | exact Nat.le_refl _ | exact Nat.le_of_ble_eq_true rfl | omega) (Nat.le_of_ble_eq_true rfl) (by first | exact Nat.le_refl _ | exact Nat.le_of_ble_eq_true rfl | omega) (by first | exact Nat.le_refl _ | exact Nat.le_of_ble_eq_true rfl | omega) ?_
    obtain rfl := Option.some.inj E
    exact r_iret C E0 dX12_refer_39 rfl rfl (Nat.le_refl _) (Nat.le_refl _)
  refine r_if_eq (tgt := 31) C dX12_refer_9 (by decide) (fun c_9_k1 => ?_) (fun c_9_k1 => ?_)
  · refine r_iconst (v := 0) C dX12_refer_31 (by decide) ?_
    first | exact (J4  ()) | (simp only [if_pos c_9_k1] at J4; exact (J4  ()))
  · refine r_iload (i := 4) C dX12_refer_12 rfl ?_
    refine r_iconst (v := (-1)) C dX12_refer_14 (by decide) ?_
    refine r_ic_eq (tgt := 27) C dX12_refer_15 (by decide) (fun c_15_k2 => ?_) (fun c_15_k2 => ?_)
    · refine r_iconst (v := 1) C dX12_refer_27 (by decide) ?_
      refine r_goto (tgt := 32) C dX12_refer_28 (by decide) ?_
      first | exact (J4  ()) | (simp only [if_neg c_9_k1, if_pos c_15_k2] at J4; exact (J4  ()))
    · refine r_iload_n (i := 2) C dX12_refer_18 rfl rfl ?_
      refine r_iload (i := 4) C dX12_refer_19 rfl ?_
      refine r_callSs C s_X12_184 (z_canBe _ _) dX12_refer_21 (As := [_, _]) rfl rfl rfl (by first | exact Nat.le_refl _ | exact Nat.le_of_ble_eq_true rfl | omega) (Nat.le_of_ble_eq_true rfl) (by first | exact Nat.le_refl _ | exact Nat.le_of_ble_eq_true rfl | omega) (by first | exact Nat.le_refl _ | exact Nat.le_of_ble_eq_true rfl | omega) ?_
      refine r_if_eq (tgt := 31) C dX12_refer_24 (by decide) (fun c_24_k3 => ?_) (fun c_24_k3 => ?_)
      · refine r_iconst (v := 0) C dX12_refer_31 (by decide) ?_
        first | exact (J4  ()) | (simp only [if_neg c_9_k1, if_neg c_15_k2, if_pos c_24_k3] at J4; exact (J4  ()))
      · refine r_iconst (v := 1) C dX12_refer_27 (by decide) ?_
        refine r_goto (tgt := 32) C dX12_refer_28 (by decide) ?_
        first | exact (J4  ()) | (simp only [if_neg c_9_k1, if_neg c_15_k2, if_neg c_24_k3] at J4; exact (J4  ()))

def m_empty_26 (K0 : MM → Option (Int32 × MM)) (x1 : Int32) : Nat → Int32 → MM → Option (Int32 × MM)
  | 0, _, _ => none
  | fu + 1, x3, S => if (14 : Int32) ≤ x3 then (K0 S) else (if ix (((14 : Int32) * x1) + x3) 224 then bnd (u2 S 20 (tn (((14 : Int32) * x1) + x3)) (0 : Int32)) fun S6 => (m_empty_26 K0 x1 fu (x3 + 1) S6) else none)
theorem z_empty_26 {X : Ctx} {m : Nat} {h : Hp} (C : Cx X yX12_empty cX12_empty 4 (Option.some Jvm.ClassFile.FieldType.int) [] 7 0 0) (hM : MW m h) {K0 : MM → Option (Int32 × MM)} {x1 : Int32} {v2 : Value} {r : Int32 × MM} (E0 : Ex X 0 0 (.inl (some (.int r.1), pm m h r.2))) : ∀ (fu : Nat) (x3 : Int32) (S : MM) , m_empty_26 K0 x1 fu x3 S = some r → (∀ (S2 : MM) (u1 u3 : Value) , K0 S2 = some r → wr X 0 0 50 [.ref m, u1, v2, u3] [] (pm m h S2)) → wr X 0 0 26 [.ref m, .int x1, v2, .int x3] [] (pm m h S) := by
  intro fu
  induction fu with
  | zero =>
    intro x3 S E hK0
    rw [m_empty_26] at E
    cases E
  | succ fu ih =>
    intro x3 S E hK0
    rw [m_empty_26] at E
    refine r_iload_n (i := 3) C dX12_empty_26 rfl rfl ?_
    refine r_bipush (v := 14) C dX12_empty_27 (by decide) ?_
    refine r_ic_ge (tgt := 50) C dX12_empty_29 (by decide) (fun c_29 => ?_) (fun c_29 => ?_)
    · have E := ite_t E c_29
      exact hK0 _ _ _ E
    · have E := ite_f E c_29
      refine r_aload_n (i := 0) C dX12_empty_32 rfl rfl (by first | rfl | exact isR_rf _) ?_
      refine rm_ref (k := 20) C f_X12_66 dX12_empty_33 rfl rfl hM rfl ?_
      refine r_bipush (v := 14) C dX12_empty_36 (by decide) ?_
      refine r_iload_n (i := 1) C dX12_empty_38 rfl rfl ?_
      refine r_imul C dX12_empty_39 ?_
      refine r_iload_n (i := 3) C dX12_empty_40 rfl rfl ?_
      refine r_iadd C dX12_empty_41 ?_
      refine r_iconst (v := 0) C dX12_empty_42 (by decide) ?_
      obtain ⟨g7, E⟩ := gd_elim E
      refine rm_iast (k := 20) C dX12_empty_43 hM rfl rfl g7 ?_
      refine bnd_elim (P := fun (Z : MM) => wr X 0 0 44 [.ref m, .int x1, v2, .int x3] [] (pm m h Z)) E (fun S6 E => ?_)
      refine r_iinc1 (i := 3) C dX12_empty_44 rfl ?_
      refine r_goto (tgt := 26) C dX12_empty_47 (by decide) ?_
      exact ih _ _ E hK0
def m_empty (S : MM) (a0 : Int32) : Option (Int32 × MM) := bd2 (m_asked S (m_isRule S a0)) fun p1 S2 => (if p1 = (0 : Int32) then (some ((0 : Int32), S2)) else (bd (m_keeps S2) fun S3 => (bd (m_declared S3 a0) fun p4 => (m_empty_26 (fun S10 => bnd (u2 S10 33 0 (0 : Int32)) fun S11 => (bd (m_changes S11) fun S12 => (some (p4, S12)))) a0 1000 (0 : Int32) S3))))
theorem z_empty (l : Launch) (G : Gl) {m : Nat} {h : Hp} (hM : MW m h) {S : MM} {a0 : Int32} {r : Int32 × MM} (E : m_empty S a0 = some r) : MRw l G yX12_empty (.code yX12_empty cX12_empty 4 (Option.some Jvm.ClassFile.FieldType.int)) 7 0 0 [.ref m, .int a0] (pm m h S) (.inl (some (.int r.1), pm m h r.2)) := by
  refine mr_of (by decide +kernel) (Nat.le_of_ble_eq_true rfl) (ct2 rfl rfl) (fun X hG hl C E0 => ?_)
  subst hG hl
  rw [m_empty] at E
  refine r_aload_n (i := 0) C dX12_empty_0 rfl rfl (by first | rfl | exact isR_rf _) ?_
  refine r_aload_n (i := 0) C dX12_empty_1 rfl rfl (by first | rfl | exact isR_rf _) ?_
  refine r_iload_n (i := 1) C dX12_empty_2 rfl rfl ?_
  refine r_callVs C v_X12_174 (z_isRule _ _ hM) dX12_empty_3 hM.1 (ci := 10) (by decide) rfl rfl (As := [_]) rfl rfl rfl (by first | exact Nat.le_refl _ | exact Nat.le_of_ble_eq_true rfl | omega) (Nat.le_of_ble_eq_true rfl) (by first | exact Nat.le_refl _ | exact Nat.le_of_ble_eq_true rfl | omega) (by first | exact Nat.le_refl _ | exact Nat.le_of_ble_eq_true rfl | omega) ?_
  obtain ⟨p1, S2, q, E⟩ := bd2_elim E
  refine r_callVs C v_X12_161 (z_asked _ _ hM q) dX12_empty_6 hM.1 (ci := 10) (by decide) rfl rfl (As := [_]) rfl rfl rfl (by first | exact Nat.le_refl _ | exact Nat.le_of_ble_eq_true rfl | omega) (Nat.le_of_ble_eq_true rfl) (by first | exact Nat.le_refl _ | exact Nat.le_of_ble_eq_true rfl | omega) (by first | exact Nat.le_refl _ | exact Nat.le_of_ble_eq_true rfl | omega) ?_
  refine r_if_ne (tgt := 14) C dX12_empty_9 (by decide) (fun c_9 => ?_) (fun c_9 => ?_)
  · have E := ite_f E c_9
    refine r_aload_n (i := 0) C dX12_empty_14 rfl rfl (by first | rfl | exact isR_rf _) ?_
    obtain ⟨S3, q, E⟩ := bd_elim E
    refine r_callVn C v_X12_147 (z_keeps _ _ hM q) dX12_empty_15 hM.1 (ci := 10) (by decide) rfl rfl (As := []) rfl rfl rfl (by first | exact Nat.le_refl _ | exact Nat.le_of_ble_eq_true rfl | omega) (Nat.le_of_ble_eq_true rfl) (by first | exact Nat.le_refl _ | exact Nat.le_of_ble_eq_true rfl | omega) (by first | exact Nat.le_refl _ | exact Nat.le_of_ble_eq_true rfl | omega) ?_
    refine r_aload_n (i := 0) C dX12_empty_18 rfl rfl (by first | rfl | exact isR_rf _) ?_
    refine r_iload_n (i := 1) C dX12_empty_19 rfl rfl ?_
    obtain ⟨p4, q, E⟩ := bd_elim E
    refine r_callVs C v_X12_181 (z_declared _ _ hM q) dX12_empty_20 hM.1 (ci := 10) (by decide) rfl rfl (As := [_]) rfl rfl rfl (by first | exact Nat.le_refl _ | exact Nat.le_of_ble_eq_true rfl | omega) (Nat.le_of_ble_eq_true rfl) (by first | exact Nat.le_refl _ | exact Nat.le_of_ble_eq_true rfl | omega) (by first | exact Nat.le_refl _ | exact Nat.le_of_ble_eq_true rfl | omega) ?_
    refine r_istore_n (i := 2) C dX12_empty_23 rfl (Nat.le_of_ble_eq_true rfl) ?_
    refine r_iconst (v := 0) C dX12_empty_24 (by decide) ?_
    refine r_istore_n (i := 3) C dX12_empty_25 rfl (Nat.le_of_ble_eq_true rfl) ?_
    refine z_empty_26 C hM E0 _ _ _ E (fun S10 w8 w9 E => ?_)
    refine r_aload_n (i := 0) C dX12_empty_50 rfl rfl (by first | rfl | exact isR_rf _) ?_
    refine r_iconst (v := 0) C dX12_empty_51 (by decide) ?_
    refine rm_put (k := 33) C f_X12_136 dX12_empty_52 rfl rfl hM rfl ?_
    refine bnd_elim (P := fun (Z : MM) => wr X 0 0 55 [.ref m, w8, .int p4, w9] [] (pm m h Z)) E (fun S11 E => ?_)
    refine r_aload_n (i := 0) C dX12_empty_55 rfl rfl (by first | rfl | exact isR_rf _) ?_
    obtain ⟨S12, q, E⟩ := bd_elim E
    refine r_callVn C v_X12_150 (z_changes _ _ hM q) dX12_empty_56 hM.1 (ci := 10) (by decide) rfl rfl (As := []) rfl rfl rfl (by first | exact Nat.le_refl _ | exact Nat.le_of_ble_eq_true rfl | omega) (Nat.le_of_ble_eq_true rfl) (by first | exact Nat.le_refl _ | exact Nat.le_of_ble_eq_true rfl | omega) (by first | exact Nat.le_refl _ | exact Nat.le_of_ble_eq_true rfl | omega) ?_
    refine r_iload_n (i := 2) C dX12_empty_59 rfl rfl ?_
    obtain rfl := Option.some.inj E
    exact r_iret C E0 dX12_empty_60 rfl rfl (Nat.le_refl _) (Nat.le_refl _)
  · have E := ite_t E c_9
    refine r_iconst (v := 0) C dX12_empty_12 (by decide) ?_
    obtain rfl := Option.some.inj E
    exact r_iret C E0 dX12_empty_13 rfl rfl (Nat.le_refl _) (Nat.le_refl _)

def m_fits (S : MM) (a0 : Int32) (a1 : Int32) : Option (Int32 × MM) := bd (m_placeOf S a1) fun p1 => (bnd (if (m_isRule S a0) = (0 : Int32) then (0 : Int32) else if p1 = ((-1) : Int32) then (0 : Int32) else (1 : Int32)) fun p5 => bd2 (m_asked S p5) fun p6 S7 => (if p6 = (0 : Int32) then (some ((0 : Int32), S7)) else (bd (m_isFit S7 a0 p1) fun p9 => (some (if p9 = (0 : Int32) then (0 : Int32) else (1 : Int32), S7)))))
theorem z_fits (l : Launch) (G : Gl) {m : Nat} {h : Hp} (hM : MW m h) {S : MM} {a0 a1 : Int32} {r : Int32 × MM} (E : m_fits S a0 a1 = some r) : MRw l G yX12_fits (.code yX12_fits cX12_fits 4 (Option.some Jvm.ClassFile.FieldType.boolean)) 3 0 0 [.ref m, .int a0, .int a1] (pm m h S) (.inl (some (.int r.1), pm m h r.2)) := by
  refine mr_of (by decide +kernel) (Nat.le_of_ble_eq_true rfl) (ct3 rfl rfl rfl) (fun X hG hl C E0 => ?_)
  subst hG hl
  rw [m_fits] at E
  refine r_aload_n (i := 0) C dX12_fits_0 rfl rfl (by first | rfl | exact isR_rf _) ?_
  refine r_iload_n (i := 2) C dX12_fits_1 rfl rfl ?_
  obtain ⟨p1, q, E⟩ := bd_elim E
  refine r_callVs C v_X12_139 (z_placeOf _ _ hM q) dX12_fits_2 hM.1 (ci := 10) (by decide) rfl rfl (As := [_]) rfl rfl rfl (by first | exact Nat.le_refl _ | exact Nat.le_of_ble_eq_true rfl | omega) (Nat.le_of_ble_eq_true rfl) (by first | exact Nat.le_refl _ | exact Nat.le_of_ble_eq_true rfl | omega) (by first | exact Nat.le_refl _ | exact Nat.le_of_ble_eq_true rfl | omega) ?_
  refine r_istore_n (i := 3) C dX12_fits_5 rfl (Nat.le_of_ble_eq_true rfl) ?_
  refine r_aload_n (i := 0) C dX12_fits_6 rfl rfl (by first | rfl | exact isR_rf _) ?_
  refine r_aload_n (i := 0) C dX12_fits_7 rfl rfl (by first | rfl | exact isR_rf _) ?_
  refine r_iload_n (i := 1) C dX12_fits_8 rfl rfl ?_
  refine r_callVs C v_X12_174 (z_isRule _ _ hM) dX12_fits_9 hM.1 (ci := 10) (by decide) rfl rfl (As := [_]) rfl rfl rfl (by first | exact Nat.le_refl _ | exact Nat.le_of_ble_eq_true rfl | omega) (Nat.le_of_ble_eq_true rfl) (by first | exact Nat.le_refl _ | exact Nat.le_of_ble_eq_true rfl | omega) (by first | exact Nat.le_refl _ | exact Nat.le_of_ble_eq_true rfl | omega) ?_
  have J4 : ∀ (u : Unit), wr X 0 0 25 [.ref m, .int a0, .int a1, .int p1] [.int (if (m_isRule S a0) = (0 : Int32) then (0 : Int32) else if p1 = ((-1) : Int32) then (0 : Int32) else (1 : Int32)), .ref m] (pm m h S) := by
    intro u
    refine bnd_elim (P := fun (z : Int32) => wr X 0 0 25 [.ref m, .int a0, .int a1, .int p1] [.int z, .ref m] (pm m h S)) E (fun p5 E => ?_)
    obtain ⟨p6, S7, q, E⟩ := bd2_elim E
    refine r_callVs C v_X12_161 (z_asked _ _ hM q) dX12_fits_25 hM.1 (ci := 10) (by decide) rfl rfl (As := [_]) rfl rfl rfl (by first | exact Nat.le_refl _ | exact Nat.le_of_ble_eq_true rfl | omega) (Nat.le_of_ble_eq_true rfl) (by first | exact Nat.le_refl _ | exact Nat.le_of_ble_eq_true rfl | omega) (by first | exact Nat.le_refl _ | exact Nat.le_of_ble_eq_true rfl | omega) ?_
    refine r_if_eq (tgt := 44) C dX12_fits_28 (by decide) (fun c_28 => ?_) (fun c_28 => ?_)
    · have E := ite_t E c_28
      refine r_iconst (v := 0) C dX12_fits_44 (by decide) ?_
      obtain rfl := Option.some.inj E
      exact r_iret C E0 dX12_fits_45 rfl (bo_nar (by first | exact Or.inl rfl | exact Or.inr rfl | assumption | exact b_canBe | exact b_in | exact b_isRule | exact b_isPart | exact b_isPartOf | (repeat' split) <;> first | exact Or.inl rfl | exact Or.inr rfl | assumption | exact b_canBe | exact b_in | exact b_isRule | exact b_isPart | exact b_isPartOf)).1 (Nat.le_refl _) (Nat.le_refl _)
    · have E := ite_f E c_28
      refine r_aload_n (i := 0) C dX12_fits_31 rfl rfl (by first | rfl | exact isR_rf _) ?_
      refine r_iload_n (i := 1) C dX12_fits_32 rfl rfl ?_
      refine r_iload_n (i := 3) C dX12_fits_33 rfl rfl ?_
      obtain ⟨p9, q, E⟩ := bd_elim E
      refine r_callVs C v_X12_197 (z_isFit _ _ hM q) dX12_fits_34 hM.1 (ci := 10) (by decide) rfl rfl (As := [_, _]) rfl rfl rfl (by first | exact Nat.le_refl _ | exact Nat.le_of_ble_eq_true rfl | omega) (Nat.le_of_ble_eq_true rfl) (by first | exact Nat.le_refl _ | exact Nat.le_of_ble_eq_true rfl | omega) (by first | exact Nat.le_refl _ | exact Nat.le_of_ble_eq_true rfl | omega) ?_
      have J11 : ∀ (u : Unit), wr X 0 0 45 [.ref m, .int a0, .int a1, .int p1] [.int (if p9 = (0 : Int32) then (0 : Int32) else (1 : Int32))] (pm m h S7) := by
        intro u
        obtain rfl := Option.some.inj E
        exact r_iret C E0 dX12_fits_45 rfl (bo_nar (by first | exact Or.inl rfl | exact Or.inr rfl | assumption | exact b_canBe | exact b_in | exact b_isRule | exact b_isPart | exact b_isPartOf | (repeat' split) <;> first | exact Or.inl rfl | exact Or.inr rfl | assumption | exact b_canBe | exact b_in | exact b_isRule | exact b_isPart | exact b_isPartOf)).1 (Nat.le_refl _) (Nat.le_refl _)
      refine r_if_eq (tgt := 44) C dX12_fits_37 (by decide) (fun c_37_k10 => ?_) (fun c_37_k10 => ?_)
      · refine r_iconst (v := 0) C dX12_fits_44 (by decide) ?_
        first | exact (J11  ()) | (simp only [if_pos c_37_k10] at J11; exact (J11  ()))
      · refine r_iconst (v := 1) C dX12_fits_40 (by decide) ?_
        refine r_goto (tgt := 45) C dX12_fits_41 (by decide) ?_
        first | exact (J11  ()) | (simp only [if_neg c_37_k10] at J11; exact (J11  ()))
  refine r_if_eq (tgt := 24) C dX12_fits_12 (by decide) (fun c_12_k2 => ?_) (fun c_12_k2 => ?_)
  · refine r_iconst (v := 0) C dX12_fits_24 (by decide) ?_
    first | exact (J4  ()) | (simp only [if_pos c_12_k2] at J4; exact (J4  ()))
  · refine r_iload_n (i := 3) C dX12_fits_15 rfl rfl ?_
    refine r_iconst (v := (-1)) C dX12_fits_16 (by decide) ?_
    refine r_ic_eq (tgt := 24) C dX12_fits_17 (by decide) (fun c_17_k3 => ?_) (fun c_17_k3 => ?_)
    · refine r_iconst (v := 0) C dX12_fits_24 (by decide) ?_
      first | exact (J4  ()) | (simp only [if_neg c_12_k2, if_pos c_17_k3] at J4; exact (J4  ()))
    · refine r_iconst (v := 1) C dX12_fits_20 (by decide) ?_
      refine r_goto (tgt := 25) C dX12_fits_21 (by decide) ?_
      first | exact (J4  ()) | (simp only [if_neg c_12_k2, if_neg c_17_k3] at J4; exact (J4  ()))

def m_weight (S : MM) (a0 : Int32) : Option (Int32 × MM) := bd2 (m_asked S (m_isRule S a0)) fun p1 S2 => (if p1 = (0 : Int32) then (some ((0 : Int32), S2)) else (bd (m_weightOf S2 a0) fun p4 => (some (p4, S2))))
theorem z_weight (l : Launch) (G : Gl) {m : Nat} {h : Hp} (hM : MW m h) {S : MM} {a0 : Int32} {r : Int32 × MM} (E : m_weight S a0 = some r) : MRw l G yX12_weight (.code yX12_weight cX12_weight 2 (Option.some Jvm.ClassFile.FieldType.int)) 2 0 0 [.ref m, .int a0] (pm m h S) (.inl (some (.int r.1), pm m h r.2)) := by
  refine mr_of (by decide +kernel) (Nat.le_of_ble_eq_true rfl) (ct2 rfl rfl) (fun X hG hl C E0 => ?_)
  subst hG hl
  rw [m_weight] at E
  refine r_aload_n (i := 0) C dX12_weight_0 rfl rfl (by first | rfl | exact isR_rf _) ?_
  refine r_aload_n (i := 0) C dX12_weight_1 rfl rfl (by first | rfl | exact isR_rf _) ?_
  refine r_iload_n (i := 1) C dX12_weight_2 rfl rfl ?_
  refine r_callVs C v_X12_174 (z_isRule _ _ hM) dX12_weight_3 hM.1 (ci := 10) (by decide) rfl rfl (As := [_]) rfl rfl rfl (by first | exact Nat.le_refl _ | exact Nat.le_of_ble_eq_true rfl | omega) (Nat.le_of_ble_eq_true rfl) (by first | exact Nat.le_refl _ | exact Nat.le_of_ble_eq_true rfl | omega) (by first | exact Nat.le_refl _ | exact Nat.le_of_ble_eq_true rfl | omega) ?_
  obtain ⟨p1, S2, q, E⟩ := bd2_elim E
  refine r_callVs C v_X12_161 (z_asked _ _ hM q) dX12_weight_6 hM.1 (ci := 10) (by decide) rfl rfl (As := [_]) rfl rfl rfl (by first | exact Nat.le_refl _ | exact Nat.le_of_ble_eq_true rfl | omega) (Nat.le_of_ble_eq_true rfl) (by first | exact Nat.le_refl _ | exact Nat.le_of_ble_eq_true rfl | omega) (by first | exact Nat.le_refl _ | exact Nat.le_of_ble_eq_true rfl | omega) ?_
  refine r_if_eq (tgt := 20) C dX12_weight_9 (by decide) (fun c_9 => ?_) (fun c_9 => ?_)
  · have E := ite_t E c_9
    refine r_iconst (v := 0) C dX12_weight_20 (by decide) ?_
    obtain rfl := Option.some.inj E
    exact r_iret C E0 dX12_weight_21 rfl rfl (Nat.le_refl _) (Nat.le_refl _)
  · have E := ite_f E c_9
    refine r_aload_n (i := 0) C dX12_weight_12 rfl rfl (by first | rfl | exact isR_rf _) ?_
    refine r_iload_n (i := 1) C dX12_weight_13 rfl rfl ?_
    obtain ⟨p4, q, E⟩ := bd_elim E
    refine r_callVs C v_X12_178 (z_weightOf _ _ hM q) dX12_weight_14 hM.1 (ci := 10) (by decide) rfl rfl (As := [_]) rfl rfl rfl (by first | exact Nat.le_refl _ | exact Nat.le_of_ble_eq_true rfl | omega) (Nat.le_of_ble_eq_true rfl) (by first | exact Nat.le_refl _ | exact Nat.le_of_ble_eq_true rfl | omega) (by first | exact Nat.le_refl _ | exact Nat.le_of_ble_eq_true rfl | omega) ?_
    refine r_goto (tgt := 21) C dX12_weight_17 (by decide) ?_
    obtain rfl := Option.some.inj E
    exact r_iret C E0 dX12_weight_21 rfl rfl (Nat.le_refl _) (Nat.le_refl _)

def m_valueOf (S : MM) (a0 : Int32) (a1 : Int32) : Option (Int32 × MM) := bd (m_placeOf S a0) fun p1 => (bnd (if p1 = ((-1) : Int32) then (0 : Int32) else if (m_in a1 (0 : Int32) (13 : Int32)) = (0 : Int32) then (0 : Int32) else (1 : Int32)) fun p5 => bd2 (m_asked S p5) fun p6 S7 => (if (¬ (p6 = (0 : Int32)) → m_of_g S7 p1 a1) then some (if p6 = (0 : Int32) then (0 : Int32) else m_of S7 p1 a1, S7) else none))
theorem z_valueOf (l : Launch) (G : Gl) {m : Nat} {h : Hp} (hM : MW m h) {S : MM} {a0 a1 : Int32} {r : Int32 × MM} (E : m_valueOf S a0 a1 = some r) : MRw l G yX12_valueOf (.code yX12_valueOf cX12_valueOf 4 (Option.some Jvm.ClassFile.FieldType.int)) 1 0 0 [.ref m, .int a0, .int a1] (pm m h S) (.inl (some (.int r.1), pm m h r.2)) := by
  refine mr_of (by decide +kernel) (Nat.le_of_ble_eq_true rfl) (ct3 rfl rfl rfl) (fun X hG hl C E0 => ?_)
  subst hG hl
  rw [m_valueOf] at E
  refine r_aload_n (i := 0) C dX12_valueOf_0 rfl rfl (by first | rfl | exact isR_rf _) ?_
  refine r_iload_n (i := 1) C dX12_valueOf_1 rfl rfl ?_
  obtain ⟨p1, q, E⟩ := bd_elim E
  refine r_callVs C v_X12_139 (z_placeOf _ _ hM q) dX12_valueOf_2 hM.1 (ci := 10) (by decide) rfl rfl (As := [_]) rfl rfl rfl (by first | exact Nat.le_refl _ | exact Nat.le_of_ble_eq_true rfl | omega) (Nat.le_of_ble_eq_true rfl) (by first | exact Nat.le_refl _ | exact Nat.le_of_ble_eq_true rfl | omega) (by first | exact Nat.le_refl _ | exact Nat.le_of_ble_eq_true rfl | omega) ?_
  refine r_istore_n (i := 3) C dX12_valueOf_5 rfl (Nat.le_of_ble_eq_true rfl) ?_
  refine r_aload_n (i := 0) C dX12_valueOf_6 rfl rfl (by first | rfl | exact isR_rf _) ?_
  refine r_iload_n (i := 3) C dX12_valueOf_7 rfl rfl ?_
  refine r_iconst (v := (-1)) C dX12_valueOf_8 (by decide) ?_
  have J4 : ∀ (u : Unit), wr X 0 0 27 [.ref m, .int a0, .int a1, .int p1] [.int (if p1 = ((-1) : Int32) then (0 : Int32) else if (m_in a1 (0 : Int32) (13 : Int32)) = (0 : Int32) then (0 : Int32) else (1 : Int32)), .ref m] (pm m h S) := by
    intro u
    refine bnd_elim (P := fun (z : Int32) => wr X 0 0 27 [.ref m, .int a0, .int a1, .int p1] [.int z, .ref m] (pm m h S)) E (fun p5 E => ?_)
    obtain ⟨p6, S7, q, E⟩ := bd2_elim E
    refine r_callVs C v_X12_161 (z_asked _ _ hM q) dX12_valueOf_27 hM.1 (ci := 10) (by decide) rfl rfl (As := [_]) rfl rfl rfl (by first | exact Nat.le_refl _ | exact Nat.le_of_ble_eq_true rfl | omega) (Nat.le_of_ble_eq_true rfl) (by first | exact Nat.le_refl _ | exact Nat.le_of_ble_eq_true rfl | omega) (by first | exact Nat.le_refl _ | exact Nat.le_of_ble_eq_true rfl | omega) ?_
    obtain ⟨g10, E⟩ := gd_elim E
    have J11 : ∀ (u : Unit), wr X 0 0 43 [.ref m, .int a0, .int a1, .int p1] [.int (if p6 = (0 : Int32) then (0 : Int32) else m_of S7 p1 a1)] (pm m h S7) := by
      intro u
      obtain rfl := Option.some.inj E
      exact r_iret C E0 dX12_valueOf_43 rfl rfl (Nat.le_refl _) (Nat.le_refl _)
    refine r_if_eq (tgt := 42) C dX12_valueOf_30 (by decide) (fun c_30_k8 => ?_) (fun c_30_k8 => ?_)
    · refine r_iconst (v := 0) C dX12_valueOf_42 (by decide) ?_
      first | exact (J11  ()) | (simp only [if_pos c_30_k8] at J11; exact (J11  ()))
    · refine r_aload_n (i := 0) C dX12_valueOf_33 rfl rfl (by first | rfl | exact isR_rf _) ?_
      refine r_iload_n (i := 3) C dX12_valueOf_34 rfl rfl ?_
      refine r_iload_n (i := 2) C dX12_valueOf_35 rfl rfl ?_
      refine r_callVs C v_X12_223 (z_of _ _ hM (g10 c_30_k8)) dX12_valueOf_36 hM.1 (ci := 10) (by decide) rfl rfl (As := [_, _]) rfl rfl rfl (by first | exact Nat.le_refl _ | exact Nat.le_of_ble_eq_true rfl | omega) (Nat.le_of_ble_eq_true rfl) (by first | exact Nat.le_refl _ | exact Nat.le_of_ble_eq_true rfl | omega) (by first | exact Nat.le_refl _ | exact Nat.le_of_ble_eq_true rfl | omega) ?_
      refine r_goto (tgt := 43) C dX12_valueOf_39 (by decide) ?_
      first | exact (J11  ()) | (simp only [if_neg c_30_k8] at J11; exact (J11  ()))
  refine r_ic_eq (tgt := 26) C dX12_valueOf_9 (by decide) (fun c_9_k2 => ?_) (fun c_9_k2 => ?_)
  · refine r_iconst (v := 0) C dX12_valueOf_26 (by decide) ?_
    first | exact (J4  ()) | (simp only [if_pos c_9_k2] at J4; exact (J4  ()))
  · refine r_iload_n (i := 2) C dX12_valueOf_12 rfl rfl ?_
    refine r_iconst (v := 0) C dX12_valueOf_13 (by decide) ?_
    refine r_bipush (v := 13) C dX12_valueOf_14 (by decide) ?_
    refine r_callSs C s_X12_129 (z_in _ _) dX12_valueOf_16 (As := [_, _, _]) rfl rfl rfl (by first | exact Nat.le_refl _ | exact Nat.le_of_ble_eq_true rfl | omega) (Nat.le_of_ble_eq_true rfl) (by first | exact Nat.le_refl _ | exact Nat.le_of_ble_eq_true rfl | omega) (by first | exact Nat.le_refl _ | exact Nat.le_of_ble_eq_true rfl | omega) ?_
    refine r_if_eq (tgt := 26) C dX12_valueOf_19 (by decide) (fun c_19_k3 => ?_) (fun c_19_k3 => ?_)
    · refine r_iconst (v := 0) C dX12_valueOf_26 (by decide) ?_
      first | exact (J4  ()) | (simp only [if_neg c_9_k2, if_pos c_19_k3] at J4; exact (J4  ()))
    · refine r_iconst (v := 1) C dX12_valueOf_22 (by decide) ?_
      refine r_goto (tgt := 27) C dX12_valueOf_23 (by decide) ?_
      first | exact (J4  ()) | (simp only [if_neg c_9_k2, if_neg c_19_k3] at J4; exact (J4  ()))

def m_value (S : MM) (a0 : Int32) (a1 : Int32) : Option (Int32 × MM) := bd2 (m_valueOf S a0 a1) fun p1 S2 => (some (p1, S2))
theorem z_value (l : Launch) (G : Gl) {m : Nat} {h : Hp} (hM : MW m h) {S : MM} {a0 a1 : Int32} {r : Int32 × MM} (E : m_value S a0 a1 = some r) : MRw l G yX12_value (.code yX12_value cX12_value 3 (Option.some Jvm.ClassFile.FieldType.int)) 2 0 0 [.ref m, .int a0, .int a1] (pm m h S) (.inl (some (.int r.1), pm m h r.2)) := by
  refine mr_of (by decide +kernel) (Nat.le_of_ble_eq_true rfl) (ct3 rfl rfl rfl) (fun X hG hl C E0 => ?_)
  subst hG hl
  rw [m_value] at E
  refine r_aload_n (i := 0) C dX12_value_0 rfl rfl (by first | rfl | exact isR_rf _) ?_
  refine r_iload_n (i := 1) C dX12_value_1 rfl rfl ?_
  refine r_iload_n (i := 2) C dX12_value_2 rfl rfl ?_
  obtain ⟨p1, S2, q, E⟩ := bd2_elim E
  refine r_callVs C v_X12_249 (z_valueOf _ _ hM q) dX12_value_3 hM.1 (ci := 10) (by decide) rfl rfl (As := [_, _]) rfl rfl rfl (by first | exact Nat.le_refl _ | exact Nat.le_of_ble_eq_true rfl | omega) (Nat.le_of_ble_eq_true rfl) (by first | exact Nat.le_refl _ | exact Nat.le_of_ble_eq_true rfl | omega) (by first | exact Nat.le_refl _ | exact Nat.le_of_ble_eq_true rfl | omega) ?_
  obtain rfl := Option.some.inj E
  exact r_iret C E0 dX12_value_6 rfl rfl (Nat.le_refl _) (Nat.le_refl _)

def m_valueAnew (S : MM) (a0 : Int32) (a1 : Int32) : Option (Int32 × MM) := bd2 (m_valueOf S a0 a1) fun p1 S2 => (some (p1, S2))
theorem z_valueAnew (l : Launch) (G : Gl) {m : Nat} {h : Hp} (hM : MW m h) {S : MM} {a0 a1 : Int32} {r : Int32 × MM} (E : m_valueAnew S a0 a1 = some r) : MRw l G yX12_valueAnew (.code yX12_valueAnew cX12_valueAnew 3 (Option.some Jvm.ClassFile.FieldType.int)) 2 0 0 [.ref m, .int a0, .int a1] (pm m h S) (.inl (some (.int r.1), pm m h r.2)) := by
  refine mr_of (by decide +kernel) (Nat.le_of_ble_eq_true rfl) (ct3 rfl rfl rfl) (fun X hG hl C E0 => ?_)
  subst hG hl
  rw [m_valueAnew] at E
  refine r_aload_n (i := 0) C dX12_valueAnew_0 rfl rfl (by first | rfl | exact isR_rf _) ?_
  refine r_iload_n (i := 1) C dX12_valueAnew_1 rfl rfl ?_
  refine r_iload_n (i := 2) C dX12_valueAnew_2 rfl rfl ?_
  obtain ⟨p1, S2, q, E⟩ := bd2_elim E
  refine r_callVs C v_X12_249 (z_valueOf _ _ hM q) dX12_valueAnew_3 hM.1 (ci := 10) (by decide) rfl rfl (As := [_, _]) rfl rfl rfl (by first | exact Nat.le_refl _ | exact Nat.le_of_ble_eq_true rfl | omega) (Nat.le_of_ble_eq_true rfl) (by first | exact Nat.le_refl _ | exact Nat.le_of_ble_eq_true rfl | omega) (by first | exact Nat.le_refl _ | exact Nat.le_of_ble_eq_true rfl | omega) ?_
  obtain rfl := Option.some.inj E
  exact r_iret C E0 dX12_valueAnew_6 rfl rfl (Nat.le_refl _) (Nat.le_refl _)

def m_from (S : MM) (a0 : Int32) (a1 : Int32) : Option (Int32 × MM) := bd (m_placeOf S a0) fun p1 => (bnd (if p1 = ((-1) : Int32) then (0 : Int32) else if (m_in a1 (0 : Int32) (13 : Int32)) = (0 : Int32) then (0 : Int32) else (1 : Int32)) fun p5 => bd2 (m_asked S p5) fun p6 S7 => (if (¬ (p6 = (0 : Int32)) → ix (((14 : Int32) * p1) + a1) 336) then some (if p6 = (0 : Int32) then (0 : Int32) else S7 24 (tn (((14 : Int32) * p1) + a1)), S7) else none))
theorem z_from (l : Launch) (G : Gl) {m : Nat} {h : Hp} (hM : MW m h) {S : MM} {a0 a1 : Int32} {r : Int32 × MM} (E : m_from S a0 a1 = some r) : MRw l G yX12_from (.code yX12_from cX12_from 4 (Option.some Jvm.ClassFile.FieldType.int)) 1 0 0 [.ref m, .int a0, .int a1] (pm m h S) (.inl (some (.int r.1), pm m h r.2)) := by
  refine mr_of (by decide +kernel) (Nat.le_of_ble_eq_true rfl) (ct3 rfl rfl rfl) (fun X hG hl C E0 => ?_)
  subst hG hl
  rw [m_from] at E
  refine r_aload_n (i := 0) C dX12_from_0 rfl rfl (by first | rfl | exact isR_rf _) ?_
  refine r_iload_n (i := 1) C dX12_from_1 rfl rfl ?_
  obtain ⟨p1, q, E⟩ := bd_elim E
  refine r_callVs C v_X12_139 (z_placeOf _ _ hM q) dX12_from_2 hM.1 (ci := 10) (by decide) rfl rfl (As := [_]) rfl rfl rfl (by first | exact Nat.le_refl _ | exact Nat.le_of_ble_eq_true rfl | omega) (Nat.le_of_ble_eq_true rfl) (by first | exact Nat.le_refl _ | exact Nat.le_of_ble_eq_true rfl | omega) (by first | exact Nat.le_refl _ | exact Nat.le_of_ble_eq_true rfl | omega) ?_
  refine r_istore_n (i := 3) C dX12_from_5 rfl (Nat.le_of_ble_eq_true rfl) ?_
  refine r_aload_n (i := 0) C dX12_from_6 rfl rfl (by first | rfl | exact isR_rf _) ?_
  refine r_iload_n (i := 3) C dX12_from_7 rfl rfl ?_
  refine r_iconst (v := (-1)) C dX12_from_8 (by decide) ?_
  have J4 : ∀ (u : Unit), wr X 0 0 27 [.ref m, .int a0, .int a1, .int p1] [.int (if p1 = ((-1) : Int32) then (0 : Int32) else if (m_in a1 (0 : Int32) (13 : Int32)) = (0 : Int32) then (0 : Int32) else (1 : Int32)), .ref m] (pm m h S) := by
    intro u
    refine bnd_elim (P := fun (z : Int32) => wr X 0 0 27 [.ref m, .int a0, .int a1, .int p1] [.int z, .ref m] (pm m h S)) E (fun p5 E => ?_)
    obtain ⟨p6, S7, q, E⟩ := bd2_elim E
    refine r_callVs C v_X12_161 (z_asked _ _ hM q) dX12_from_27 hM.1 (ci := 10) (by decide) rfl rfl (As := [_]) rfl rfl rfl (by first | exact Nat.le_refl _ | exact Nat.le_of_ble_eq_true rfl | omega) (Nat.le_of_ble_eq_true rfl) (by first | exact Nat.le_refl _ | exact Nat.le_of_ble_eq_true rfl | omega) (by first | exact Nat.le_refl _ | exact Nat.le_of_ble_eq_true rfl | omega) ?_
    obtain ⟨g10, E⟩ := gd_elim E
    have J11 : ∀ (u : Unit), wr X 0 0 48 [.ref m, .int a0, .int a1, .int p1] [.int (if p6 = (0 : Int32) then (0 : Int32) else S7 24 (tn (((14 : Int32) * p1) + a1)))] (pm m h S7) := by
      intro u
      obtain rfl := Option.some.inj E
      exact r_iret C E0 dX12_from_48 rfl rfl (Nat.le_refl _) (Nat.le_refl _)
    refine r_if_eq (tgt := 47) C dX12_from_30 (by decide) (fun c_30_k8 => ?_) (fun c_30_k8 => ?_)
    · refine r_iconst (v := 0) C dX12_from_47 (by decide) ?_
      first | exact (J11  ()) | (simp only [if_pos c_30_k8] at J11; exact (J11  ()))
    · refine r_aload_n (i := 0) C dX12_from_33 rfl rfl (by first | rfl | exact isR_rf _) ?_
      refine rm_ref (k := 24) C f_X12_78 dX12_from_34 rfl rfl hM rfl ?_
      refine r_bipush (v := 14) C dX12_from_37 (by decide) ?_
      refine r_iload_n (i := 3) C dX12_from_39 rfl rfl ?_
      refine r_imul C dX12_from_40 ?_
      refine r_iload_n (i := 2) C dX12_from_41 rfl rfl ?_
      refine r_iadd C dX12_from_42 ?_
      refine rm_iald (k := 24) C dX12_from_43 hM rfl rfl (g10 c_30_k8) ?_
      refine r_goto (tgt := 48) C dX12_from_44 (by decide) ?_
      first | exact (J11  ()) | (simp only [if_neg c_30_k8] at J11; exact (J11  ()))
  refine r_ic_eq (tgt := 26) C dX12_from_9 (by decide) (fun c_9_k2 => ?_) (fun c_9_k2 => ?_)
  · refine r_iconst (v := 0) C dX12_from_26 (by decide) ?_
    first | exact (J4  ()) | (simp only [if_pos c_9_k2] at J4; exact (J4  ()))
  · refine r_iload_n (i := 2) C dX12_from_12 rfl rfl ?_
    refine r_iconst (v := 0) C dX12_from_13 (by decide) ?_
    refine r_bipush (v := 13) C dX12_from_14 (by decide) ?_
    refine r_callSs C s_X12_129 (z_in _ _) dX12_from_16 (As := [_, _, _]) rfl rfl rfl (by first | exact Nat.le_refl _ | exact Nat.le_of_ble_eq_true rfl | omega) (Nat.le_of_ble_eq_true rfl) (by first | exact Nat.le_refl _ | exact Nat.le_of_ble_eq_true rfl | omega) (by first | exact Nat.le_refl _ | exact Nat.le_of_ble_eq_true rfl | omega) ?_
    refine r_if_eq (tgt := 26) C dX12_from_19 (by decide) (fun c_19_k3 => ?_) (fun c_19_k3 => ?_)
    · refine r_iconst (v := 0) C dX12_from_26 (by decide) ?_
      first | exact (J4  ()) | (simp only [if_neg c_9_k2, if_pos c_19_k3] at J4; exact (J4  ()))
    · refine r_iconst (v := 1) C dX12_from_22 (by decide) ?_
      refine r_goto (tgt := 27) C dX12_from_23 (by decide) ?_
      first | exact (J4  ()) | (simp only [if_neg c_9_k2, if_neg c_19_k3] at J4; exact (J4  ()))

def m_boxOf (S : MM) (a0 : Int32) (a1 : Int32) : Option (Int32 × MM) := bd (m_placeOf S a0) fun p1 => (bnd (if p1 = ((-1) : Int32) then (0 : Int32) else (1 : Int32)) fun p4 => bd2 (m_asked_ S p4 (m_in a1 (0 : Int32) (3 : Int32))) fun p5 S6 => (if (¬ (p5 = (0 : Int32)) → ix (((4 : Int32) * p1) + a1) 96) then some (if p5 = (0 : Int32) then (0 : Int32) else S6 25 (tn (((4 : Int32) * p1) + a1)), S6) else none))
theorem z_boxOf (l : Launch) (G : Gl) {m : Nat} {h : Hp} (hM : MW m h) {S : MM} {a0 a1 : Int32} {r : Int32 × MM} (E : m_boxOf S a0 a1 = some r) : MRw l G yX12_boxOf (.code yX12_boxOf cX12_boxOf 4 (Option.some Jvm.ClassFile.FieldType.int)) 1 0 0 [.ref m, .int a0, .int a1] (pm m h S) (.inl (some (.int r.1), pm m h r.2)) := by
  refine mr_of (by decide +kernel) (Nat.le_of_ble_eq_true rfl) (ct3 rfl rfl rfl) (fun X hG hl C E0 => ?_)
  subst hG hl
  rw [m_boxOf] at E
  refine r_aload_n (i := 0) C dX12_boxOf_0 rfl rfl (by first | rfl | exact isR_rf _) ?_
  refine r_iload_n (i := 1) C dX12_boxOf_1 rfl rfl ?_
  obtain ⟨p1, q, E⟩ := bd_elim E
  refine r_callVs C v_X12_139 (z_placeOf _ _ hM q) dX12_boxOf_2 hM.1 (ci := 10) (by decide) rfl rfl (As := [_]) rfl rfl rfl (by first | exact Nat.le_refl _ | exact Nat.le_of_ble_eq_true rfl | omega) (Nat.le_of_ble_eq_true rfl) (by first | exact Nat.le_refl _ | exact Nat.le_of_ble_eq_true rfl | omega) (by first | exact Nat.le_refl _ | exact Nat.le_of_ble_eq_true rfl | omega) ?_
  refine r_istore_n (i := 3) C dX12_boxOf_5 rfl (Nat.le_of_ble_eq_true rfl) ?_
  refine r_aload_n (i := 0) C dX12_boxOf_6 rfl rfl (by first | rfl | exact isR_rf _) ?_
  refine r_iload_n (i := 3) C dX12_boxOf_7 rfl rfl ?_
  refine r_iconst (v := (-1)) C dX12_boxOf_8 (by decide) ?_
  have J3 : ∀ (u : Unit), wr X 0 0 17 [.ref m, .int a0, .int a1, .int p1] [.int (if p1 = ((-1) : Int32) then (0 : Int32) else (1 : Int32)), .ref m] (pm m h S) := by
    intro u
    refine bnd_elim (P := fun (z : Int32) => wr X 0 0 17 [.ref m, .int a0, .int a1, .int p1] [.int z, .ref m] (pm m h S)) E (fun p4 E => ?_)
    refine r_iload_n (i := 2) C dX12_boxOf_17 rfl rfl ?_
    refine r_iconst (v := 0) C dX12_boxOf_18 (by decide) ?_
    refine r_iconst (v := 3) C dX12_boxOf_19 (by decide) ?_
    refine r_callSs C s_X12_129 (z_in _ _) dX12_boxOf_20 (As := [_, _, _]) rfl rfl rfl (by first | exact Nat.le_refl _ | exact Nat.le_of_ble_eq_true rfl | omega) (Nat.le_of_ble_eq_true rfl) (by first | exact Nat.le_refl _ | exact Nat.le_of_ble_eq_true rfl | omega) (by first | exact Nat.le_refl _ | exact Nat.le_of_ble_eq_true rfl | omega) ?_
    obtain ⟨p5, S6, q, E⟩ := bd2_elim E
    refine r_callVs C v_X12_153 (z_asked_ _ _ hM q) dX12_boxOf_23 hM.1 (ci := 10) (by decide) rfl rfl (As := [_, _]) rfl rfl rfl (by first | exact Nat.le_refl _ | exact Nat.le_of_ble_eq_true rfl | omega) (Nat.le_of_ble_eq_true rfl) (by first | exact Nat.le_refl _ | exact Nat.le_of_ble_eq_true rfl | omega) (by first | exact Nat.le_refl _ | exact Nat.le_of_ble_eq_true rfl | omega) ?_
    obtain ⟨g9, E⟩ := gd_elim E
    have J10 : ∀ (u : Unit), wr X 0 0 43 [.ref m, .int a0, .int a1, .int p1] [.int (if p5 = (0 : Int32) then (0 : Int32) else S6 25 (tn (((4 : Int32) * p1) + a1)))] (pm m h S6) := by
      intro u
      obtain rfl := Option.some.inj E
      exact r_iret C E0 dX12_boxOf_43 rfl rfl (Nat.le_refl _) (Nat.le_refl _)
    refine r_if_eq (tgt := 42) C dX12_boxOf_26 (by decide) (fun c_26_k7 => ?_) (fun c_26_k7 => ?_)
    · refine r_iconst (v := 0) C dX12_boxOf_42 (by decide) ?_
      first | exact (J10  ()) | (simp only [if_pos c_26_k7] at J10; exact (J10  ()))
    · refine r_aload_n (i := 0) C dX12_boxOf_29 rfl rfl (by first | rfl | exact isR_rf _) ?_
      refine rm_ref (k := 25) C f_X12_81 dX12_boxOf_30 rfl rfl hM rfl ?_
      refine r_iconst (v := 4) C dX12_boxOf_33 (by decide) ?_
      refine r_iload_n (i := 3) C dX12_boxOf_34 rfl rfl ?_
      refine r_imul C dX12_boxOf_35 ?_
      refine r_iload_n (i := 2) C dX12_boxOf_36 rfl rfl ?_
      refine r_iadd C dX12_boxOf_37 ?_
      refine rm_iald (k := 25) C dX12_boxOf_38 hM rfl rfl (g9 c_26_k7) ?_
      refine r_goto (tgt := 43) C dX12_boxOf_39 (by decide) ?_
      first | exact (J10  ()) | (simp only [if_neg c_26_k7] at J10; exact (J10  ()))
  refine r_ic_eq (tgt := 16) C dX12_boxOf_9 (by decide) (fun c_9_k2 => ?_) (fun c_9_k2 => ?_)
  · refine r_iconst (v := 0) C dX12_boxOf_16 (by decide) ?_
    first | exact (J3  ()) | (simp only [if_pos c_9_k2] at J3; exact (J3  ()))
  · refine r_iconst (v := 1) C dX12_boxOf_12 (by decide) ?_
    refine r_goto (tgt := 17) C dX12_boxOf_13 (by decide) ?_
    first | exact (J3  ()) | (simp only [if_neg c_9_k2] at J3; exact (J3  ()))

def m_box (S : MM) (a0 : Int32) (a1 : Int32) : Option (Int32 × MM) := bd2 (m_boxOf S a0 a1) fun p1 S2 => (some (p1, S2))
theorem z_box (l : Launch) (G : Gl) {m : Nat} {h : Hp} (hM : MW m h) {S : MM} {a0 a1 : Int32} {r : Int32 × MM} (E : m_box S a0 a1 = some r) : MRw l G yX12_box (.code yX12_box cX12_box 3 (Option.some Jvm.ClassFile.FieldType.int)) 2 0 0 [.ref m, .int a0, .int a1] (pm m h S) (.inl (some (.int r.1), pm m h r.2)) := by
  refine mr_of (by decide +kernel) (Nat.le_of_ble_eq_true rfl) (ct3 rfl rfl rfl) (fun X hG hl C E0 => ?_)
  subst hG hl
  rw [m_box] at E
  refine r_aload_n (i := 0) C dX12_box_0 rfl rfl (by first | rfl | exact isR_rf _) ?_
  refine r_iload_n (i := 1) C dX12_box_1 rfl rfl ?_
  refine r_iload_n (i := 2) C dX12_box_2 rfl rfl ?_
  obtain ⟨p1, S2, q, E⟩ := bd2_elim E
  refine r_callVs C v_X12_252 (z_boxOf _ _ hM q) dX12_box_3 hM.1 (ci := 10) (by decide) rfl rfl (As := [_, _]) rfl rfl rfl (by first | exact Nat.le_refl _ | exact Nat.le_of_ble_eq_true rfl | omega) (Nat.le_of_ble_eq_true rfl) (by first | exact Nat.le_refl _ | exact Nat.le_of_ble_eq_true rfl | omega) (by first | exact Nat.le_refl _ | exact Nat.le_of_ble_eq_true rfl | omega) ?_
  obtain rfl := Option.some.inj E
  exact r_iret C E0 dX12_box_6 rfl rfl (Nat.le_refl _) (Nat.le_refl _)

def m_boxAnew (S : MM) (a0 : Int32) (a1 : Int32) : Option (Int32 × MM) := bd2 (m_boxOf S a0 a1) fun p1 S2 => (some (p1, S2))
theorem z_boxAnew (l : Launch) (G : Gl) {m : Nat} {h : Hp} (hM : MW m h) {S : MM} {a0 a1 : Int32} {r : Int32 × MM} (E : m_boxAnew S a0 a1 = some r) : MRw l G yX12_boxAnew (.code yX12_boxAnew cX12_boxAnew 3 (Option.some Jvm.ClassFile.FieldType.int)) 2 0 0 [.ref m, .int a0, .int a1] (pm m h S) (.inl (some (.int r.1), pm m h r.2)) := by
  refine mr_of (by decide +kernel) (Nat.le_of_ble_eq_true rfl) (ct3 rfl rfl rfl) (fun X hG hl C E0 => ?_)
  subst hG hl
  rw [m_boxAnew] at E
  refine r_aload_n (i := 0) C dX12_boxAnew_0 rfl rfl (by first | rfl | exact isR_rf _) ?_
  refine r_iload_n (i := 1) C dX12_boxAnew_1 rfl rfl ?_
  refine r_iload_n (i := 2) C dX12_boxAnew_2 rfl rfl ?_
  obtain ⟨p1, S2, q, E⟩ := bd2_elim E
  refine r_callVs C v_X12_252 (z_boxOf _ _ hM q) dX12_boxAnew_3 hM.1 (ci := 10) (by decide) rfl rfl (As := [_, _]) rfl rfl rfl (by first | exact Nat.le_refl _ | exact Nat.le_of_ble_eq_true rfl | omega) (Nat.le_of_ble_eq_true rfl) (by first | exact Nat.le_refl _ | exact Nat.le_of_ble_eq_true rfl | omega) (by first | exact Nat.le_refl _ | exact Nat.le_of_ble_eq_true rfl | omega) ?_
  obtain rfl := Option.some.inj E
  exact r_iret C E0 dX12_boxAnew_6 rfl rfl (Nat.le_refl _) (Nat.le_refl _)

def m_lines (S : MM) (a0 : Int32) : Option (Int32 × MM) := bd (m_placeOf S a0) fun p1 => (bnd (if p1 = ((-1) : Int32) then (0 : Int32) else (1 : Int32)) fun p4 => bd2 (m_asked S p4) fun p5 S6 => (if (¬ (p5 = (0 : Int32)) → ix p1 24) then some (if p5 = (0 : Int32) then (0 : Int32) else S6 26 (tn p1), S6) else none))
theorem z_lines (l : Launch) (G : Gl) {m : Nat} {h : Hp} (hM : MW m h) {S : MM} {a0 : Int32} {r : Int32 × MM} (E : m_lines S a0 = some r) : MRw l G yX12_lines (.code yX12_lines cX12_lines 3 (Option.some Jvm.ClassFile.FieldType.int)) 1 0 0 [.ref m, .int a0] (pm m h S) (.inl (some (.int r.1), pm m h r.2)) := by
  refine mr_of (by decide +kernel) (Nat.le_of_ble_eq_true rfl) (ct2 rfl rfl) (fun X hG hl C E0 => ?_)
  subst hG hl
  rw [m_lines] at E
  refine r_aload_n (i := 0) C dX12_lines_0 rfl rfl (by first | rfl | exact isR_rf _) ?_
  refine r_iload_n (i := 1) C dX12_lines_1 rfl rfl ?_
  obtain ⟨p1, q, E⟩ := bd_elim E
  refine r_callVs C v_X12_139 (z_placeOf _ _ hM q) dX12_lines_2 hM.1 (ci := 10) (by decide) rfl rfl (As := [_]) rfl rfl rfl (by first | exact Nat.le_refl _ | exact Nat.le_of_ble_eq_true rfl | omega) (Nat.le_of_ble_eq_true rfl) (by first | exact Nat.le_refl _ | exact Nat.le_of_ble_eq_true rfl | omega) (by first | exact Nat.le_refl _ | exact Nat.le_of_ble_eq_true rfl | omega) ?_
  refine r_istore_n (i := 2) C dX12_lines_5 rfl (Nat.le_of_ble_eq_true rfl) ?_
  refine r_aload_n (i := 0) C dX12_lines_6 rfl rfl (by first | rfl | exact isR_rf _) ?_
  refine r_iload_n (i := 2) C dX12_lines_7 rfl rfl ?_
  refine r_iconst (v := (-1)) C dX12_lines_8 (by decide) ?_
  have J3 : ∀ (u : Unit), wr X 0 0 17 [.ref m, .int a0, .int p1] [.int (if p1 = ((-1) : Int32) then (0 : Int32) else (1 : Int32)), .ref m] (pm m h S) := by
    intro u
    refine bnd_elim (P := fun (z : Int32) => wr X 0 0 17 [.ref m, .int a0, .int p1] [.int z, .ref m] (pm m h S)) E (fun p4 E => ?_)
    obtain ⟨p5, S6, q, E⟩ := bd2_elim E
    refine r_callVs C v_X12_161 (z_asked _ _ hM q) dX12_lines_17 hM.1 (ci := 10) (by decide) rfl rfl (As := [_]) rfl rfl rfl (by first | exact Nat.le_refl _ | exact Nat.le_of_ble_eq_true rfl | omega) (Nat.le_of_ble_eq_true rfl) (by first | exact Nat.le_refl _ | exact Nat.le_of_ble_eq_true rfl | omega) (by first | exact Nat.le_refl _ | exact Nat.le_of_ble_eq_true rfl | omega) ?_
    obtain ⟨g9, E⟩ := gd_elim E
    have J10 : ∀ (u : Unit), wr X 0 0 33 [.ref m, .int a0, .int p1] [.int (if p5 = (0 : Int32) then (0 : Int32) else S6 26 (tn p1))] (pm m h S6) := by
      intro u
      obtain rfl := Option.some.inj E
      exact r_iret C E0 dX12_lines_33 rfl rfl (Nat.le_refl _) (Nat.le_refl _)
    refine r_if_eq (tgt := 32) C dX12_lines_20 (by decide) (fun c_20_k7 => ?_) (fun c_20_k7 => ?_)
    · refine r_iconst (v := 0) C dX12_lines_32 (by decide) ?_
      first | exact (J10  ()) | (simp only [if_pos c_20_k7] at J10; exact (J10  ()))
    · refine r_aload_n (i := 0) C dX12_lines_23 rfl rfl (by first | rfl | exact isR_rf _) ?_
      refine rm_ref (k := 26) C f_X12_84 dX12_lines_24 rfl rfl hM rfl ?_
      refine r_iload_n (i := 2) C dX12_lines_27 rfl rfl ?_
      refine rm_iald (k := 26) C dX12_lines_28 hM rfl rfl (g9 c_20_k7) ?_
      refine r_goto (tgt := 33) C dX12_lines_29 (by decide) ?_
      first | exact (J10  ()) | (simp only [if_neg c_20_k7] at J10; exact (J10  ()))
  refine r_ic_eq (tgt := 16) C dX12_lines_9 (by decide) (fun c_9_k2 => ?_) (fun c_9_k2 => ?_)
  · refine r_iconst (v := 0) C dX12_lines_16 (by decide) ?_
    first | exact (J3  ()) | (simp only [if_pos c_9_k2] at J3; exact (J3  ()))
  · refine r_iconst (v := 1) C dX12_lines_12 (by decide) ?_
    refine r_goto (tgt := 17) C dX12_lines_13 (by decide) ?_
    first | exact (J3  ()) | (simp only [if_neg c_9_k2] at J3; exact (J3  ()))

def m_elements (S : MM) : Option (Int32 × MM) := bnd (u2 S 0 0 (0 : Int32)) fun S1 => (some (S1 3 0, S1))
theorem z_elements (l : Launch) (G : Gl) {m : Nat} {h : Hp} (hM : MW m h) {S : MM} {r : Int32 × MM} (E : m_elements S = some r) : MRw l G yX12_elements (.code yX12_elements cX12_elements 1 (Option.some Jvm.ClassFile.FieldType.int)) 0 0 0 [.ref m] (pm m h S) (.inl (some (.int r.1), pm m h r.2)) := by
  refine mr_of (by decide +kernel) (Nat.le_of_ble_eq_true rfl) (ct1 rfl) (fun X hG hl C E0 => ?_)
  subst hG hl
  rw [m_elements] at E
  refine r_aload_n (i := 0) C dX12_elements_0 rfl rfl (by first | rfl | exact isR_rf _) ?_
  refine r_iconst (v := 0) C dX12_elements_1 (by decide) ?_
  refine rm_put (k := 0) C f_X12_123 dX12_elements_2 rfl rfl hM rfl ?_
  refine bnd_elim (P := fun (Z : MM) => wr X 0 0 5 [.ref m] [] (pm m h Z)) E (fun S1 E => ?_)
  refine r_aload_n (i := 0) C dX12_elements_5 rfl rfl (by first | rfl | exact isR_rf _) ?_
  refine rm_get (k := 3) C f_X12_16 dX12_elements_6 rfl rfl hM rfl ?_
  obtain rfl := Option.some.inj E
  exact r_iret C E0 dX12_elements_9 rfl rfl (Nat.le_refl _) (Nat.le_refl _)

def m_reached (S : MM) : Option (Int32 × MM) := bnd (u2 S 0 0 (0 : Int32)) fun S1 => (some (S1 33 0, S1))
theorem z_reached (l : Launch) (G : Gl) {m : Nat} {h : Hp} (hM : MW m h) {S : MM} {r : Int32 × MM} (E : m_reached S = some r) : MRw l G yX12_reached (.code yX12_reached cX12_reached 1 (Option.some Jvm.ClassFile.FieldType.int)) 0 0 0 [.ref m] (pm m h S) (.inl (some (.int r.1), pm m h r.2)) := by
  refine mr_of (by decide +kernel) (Nat.le_of_ble_eq_true rfl) (ct1 rfl) (fun X hG hl C E0 => ?_)
  subst hG hl
  rw [m_reached] at E
  refine r_aload_n (i := 0) C dX12_reached_0 rfl rfl (by first | rfl | exact isR_rf _) ?_
  refine r_iconst (v := 0) C dX12_reached_1 (by decide) ?_
  refine rm_put (k := 0) C f_X12_123 dX12_reached_2 rfl rfl hM rfl ?_
  refine bnd_elim (P := fun (Z : MM) => wr X 0 0 5 [.ref m] [] (pm m h Z)) E (fun S1 E => ?_)
  refine r_aload_n (i := 0) C dX12_reached_5 rfl rfl (by first | rfl | exact isR_rf _) ?_
  refine rm_get (k := 33) C f_X12_136 dX12_reached_6 rfl rfl hM rfl ?_
  obtain rfl := Option.some.inj E
  exact r_iret C E0 dX12_reached_9 rfl rfl (Nat.le_refl _) (Nat.le_refl _)

def m_thrown (S : MM) : Int32 := S 0 0
theorem z_thrown (l : Launch) (G : Gl) {m : Nat} {h : Hp} (hM : MW m h) {S : MM} : MRw l G yX12_thrown (.code yX12_thrown cX12_thrown 1 (Option.some Jvm.ClassFile.FieldType.int)) 0 0 0 [.ref m] (pm m h S) (.inl (some (.int (m_thrown S)), (pm m h S))) := by
  refine mr_of (by decide +kernel) (Nat.le_of_ble_eq_true rfl) (ct1 rfl) (fun X hG hl C E0 => ?_)
  subst hG hl
  rw [m_thrown] at E0
  refine r_aload_n (i := 0) C dX12_thrown_0 rfl rfl (by first | rfl | exact isR_rf _) ?_
  refine rm_get (k := 0) C f_X12_123 dX12_thrown_1 rfl rfl hM rfl ?_
  exact r_iret C E0 dX12_thrown_4 rfl rfl (Nat.le_refl _) (Nat.le_refl _)

