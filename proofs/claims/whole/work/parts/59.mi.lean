/-! ===== the model: finds (by gen.py) ===== -/
def m_finds_4 (K0 : Int32 → MM → Option (MM)) : Nat → Int32 → Int32 → MM → Option (MM)
  | 0, _, _, _ => none
  | fu + 1, x1, x2, S => if (S 3 0) ≤ x2 then (K0 x1 S) else (if ix x2 24 then if (¬ ((S 5 (tn x2)) = ((-1) : Int32)) → ix (S 5 (tn x2)) 24) then bnd (if (S 5 (tn x2)) = ((-1) : Int32) then (0 : Int32) else (S 27 (tn (S 5 (tn x2)))) + (1 : Int32)) fun p12 => bnd (u2 S 27 (tn x2) p12) fun S13 => (bnd (if (S13 27 (tn x2)) ≤ x1 then x1 else S13 27 (tn x2)) fun p16 => (m_finds_4 K0 fu p16 (x2 + 1) S13)) else none else none)
theorem z_finds_4 {X : Ctx} {m : Nat} {h : Hp} (C : Cx X yX12_finds cX12_finds 4 none [] 5 0 0) (hM : MW m h) {K0 : Int32 → MM → Option (MM)} {r : MM} (E0 : Ex X 0 0 (.inl (none, pm m h r))) : ∀ (fu : Nat) (x1 x2 : Int32) (S : MM) (u3 : Value) , m_finds_4 K0 fu x1 x2 S = some r → (∀ (y1 : Int32) (S2 : MM) (u2 u3 : Value) , K0 y1 S2 = some r → wr X 0 0 72 [.ref m, .int y1, u2, u3] [] (pm m h S2)) → wr X 0 0 4 [.ref m, .int x1, .int x2, u3] [] (pm m h S) := by
  intro fu
  induction fu with
  | zero =>
    intro x1 x2 S u3 E hK0
    rw [m_finds_4] at E
    cases E
  | succ fu ih =>
    intro x1 x2 S u3 E hK0
    rw [m_finds_4] at E
    refine r_iload_n (i := 2) C dX12_finds_4 rfl rfl ?_
    refine r_aload_n (i := 0) C dX12_finds_5 rfl rfl (by first | rfl | exact isR_rf _) ?_
    refine rm_get (k := 3) C f_X12_16 dX12_finds_6 rfl rfl hM rfl ?_
    refine r_ic_ge (tgt := 72) C dX12_finds_9 (by decide) (fun c_9 => ?_) (fun c_9 => ?_)
    · have E := ite_t E c_9
      exact hK0 _ _ _ _ E
    · have E := ite_f E c_9
      refine r_aload_n (i := 0) C dX12_finds_12 rfl rfl (by first | rfl | exact isR_rf _) ?_
      refine rm_ref (k := 27) C f_X12_87 dX12_finds_13 rfl rfl hM rfl ?_
      refine r_iload_n (i := 2) C dX12_finds_16 rfl rfl ?_
      refine r_aload_n (i := 0) C dX12_finds_17 rfl rfl (by first | rfl | exact isR_rf _) ?_
      refine rm_ref (k := 5) C f_X12_23 dX12_finds_18 rfl rfl hM rfl ?_
      refine r_iload_n (i := 2) C dX12_finds_21 rfl rfl ?_
      obtain ⟨g7, E⟩ := gd_elim E
      refine rm_iald (k := 5) C dX12_finds_22 hM rfl rfl g7 ?_
      refine r_iconst (v := (-1)) C dX12_finds_23 (by decide) ?_
      obtain ⟨g10, E⟩ := gd_elim E
      have J11 : ∀ (u : Unit), wr X 0 0 44 [.ref m, .int x1, .int x2, u3] [.int (if (S 5 (tn x2)) = ((-1) : Int32) then (0 : Int32) else (S 27 (tn (S 5 (tn x2)))) + (1 : Int32)), .int x2, .ref (m + mad 27)] (pm m h S) := by
        intro u
        refine bnd_elim (P := fun (z : Int32) => wr X 0 0 44 [.ref m, .int x1, .int x2, u3] [.int z, .int x2, .ref (m + mad 27)] (pm m h S)) E (fun p12 E => ?_)
        refine rm_iast (k := 27) C dX12_finds_44 hM rfl rfl g7 ?_
        refine bnd_elim (P := fun (Z : MM) => wr X 0 0 45 [.ref m, .int x1, .int x2, u3] [] (pm m h Z)) E (fun S13 E => ?_)
        refine r_aload_n (i := 0) C dX12_finds_45 rfl rfl (by first | rfl | exact isR_rf _) ?_
        refine rm_ref (k := 27) C f_X12_87 dX12_finds_46 rfl rfl hM rfl ?_
        refine r_iload_n (i := 2) C dX12_finds_49 rfl rfl ?_
        refine rm_iald (k := 27) C dX12_finds_50 hM rfl rfl g7 ?_
        refine r_iload_n (i := 1) C dX12_finds_51 rfl rfl ?_
        have J15 : ∀ (u : Unit), wr X 0 0 65 [.ref m, .int x1, .int x2, u3] [.int (if (S13 27 (tn x2)) ≤ x1 then x1 else S13 27 (tn x2))] (pm m h S13) := by
          intro u
          refine bnd_elim (P := fun (z : Int32) => wr X 0 0 65 [.ref m, .int x1, .int x2, u3] [.int z] (pm m h S13)) E (fun p16 E => ?_)
          refine r_istore_n (i := 1) C dX12_finds_65 rfl (Nat.le_of_ble_eq_true rfl) ?_
          refine r_iinc1 (i := 2) C dX12_finds_66 rfl ?_
          refine r_goto (tgt := 4) C dX12_finds_69 (by decide) ?_
          exact ih _ _ _ _ E hK0
        refine r_ic_le (tgt := 64) C dX12_finds_52 (by decide) (fun c_52_k14 => ?_) (fun c_52_k14 => ?_)
        · refine r_iload_n (i := 1) C dX12_finds_64 rfl rfl ?_
          first | exact (J15  ()) | (simp only [if_pos c_52_k14] at J15; exact (J15  ()))
        · refine r_aload_n (i := 0) C dX12_finds_55 rfl rfl (by first | rfl | exact isR_rf _) ?_
          refine rm_ref (k := 27) C f_X12_87 dX12_finds_56 rfl rfl hM rfl ?_
          refine r_iload_n (i := 2) C dX12_finds_59 rfl rfl ?_
          refine rm_iald (k := 27) C dX12_finds_60 hM rfl rfl g7 ?_
          refine r_goto (tgt := 65) C dX12_finds_61 (by decide) ?_
          first | exact (J15  ()) | (simp only [if_neg c_52_k14] at J15; exact (J15  ()))
      refine r_ic_ne (tgt := 31) C dX12_finds_24 (by decide) (fun c_24_k8 => ?_) (fun c_24_k8 => ?_)
      · refine r_aload_n (i := 0) C dX12_finds_31 rfl rfl (by first | rfl | exact isR_rf _) ?_
        refine rm_ref (k := 27) C f_X12_87 dX12_finds_32 rfl rfl hM rfl ?_
        refine r_aload_n (i := 0) C dX12_finds_35 rfl rfl (by first | rfl | exact isR_rf _) ?_
        refine rm_ref (k := 5) C f_X12_23 dX12_finds_36 rfl rfl hM rfl ?_
        refine r_iload_n (i := 2) C dX12_finds_39 rfl rfl ?_
        refine rm_iald (k := 5) C dX12_finds_40 hM rfl rfl g7 ?_
        refine rm_iald (k := 27) C dX12_finds_41 hM rfl rfl (g10 c_24_k8) ?_
        refine r_iconst (v := 1) C dX12_finds_42 (by decide) ?_
        refine r_iadd C dX12_finds_43 ?_
        first | exact (J11  ()) | (simp only [if_neg c_24_k8] at J11; exact (J11  ()))
      · refine r_iconst (v := 0) C dX12_finds_27 (by decide) ?_
        refine r_goto (tgt := 44) C dX12_finds_28 (by decide) ?_
        first | exact (J11  ()) | (simp only [if_pos c_24_k8] at J11; exact (J11  ()))
def m_finds_81 (K0 : MM → Option (MM)) (x2 : Int32) : Nat → Int32 → MM → Option (MM)
  | 0, _, _ => none
  | fu + 1, x3, S => if (S 3 0) ≤ x3 then (K0 S) else (if ix x3 24 then if (S 27 (tn x3)) = x2 then (bd (m_findsValues S x3) fun S28 => (m_finds_81 K0 x2 fu (x3 + 1) S28)) else (m_finds_81 K0 x2 fu (x3 + 1) S) else none)
theorem z_finds_81 {X : Ctx} {m : Nat} {h : Hp} (C : Cx X yX12_finds cX12_finds 4 none [] 5 0 0) (hM : MW m h) {K0 : MM → Option (MM)} {x2 : Int32} {v1 : Value} {r : MM} (E0 : Ex X 0 0 (.inl (none, pm m h r))) : ∀ (fu : Nat) (x3 : Int32) (S : MM) , m_finds_81 K0 x2 fu x3 S = some r → (∀ (S2 : MM) (u3 : Value) , K0 S2 = some r → wr X 0 0 110 [.ref m, v1, .int x2, u3] [] (pm m h S2)) → wr X 0 0 81 [.ref m, v1, .int x2, .int x3] [] (pm m h S) := by
  intro fu
  induction fu with
  | zero =>
    intro x3 S E hK0
    rw [m_finds_81] at E
    cases E
  | succ fu ih =>
    intro x3 S E hK0
    rw [m_finds_81] at E
    refine r_iload_n (i := 3) C dX12_finds_81 rfl rfl ?_
    refine r_aload_n (i := 0) C dX12_finds_82 rfl rfl (by first | rfl | exact isR_rf _) ?_
    refine rm_get (k := 3) C f_X12_16 dX12_finds_83 rfl rfl hM rfl ?_
    refine r_ic_ge (tgt := 110) C dX12_finds_86 (by decide) (fun c_86 => ?_) (fun c_86 => ?_)
    · have E := ite_t E c_86
      exact hK0 _ _ E
    · have E := ite_f E c_86
      refine r_aload_n (i := 0) C dX12_finds_89 rfl rfl (by first | rfl | exact isR_rf _) ?_
      refine rm_ref (k := 27) C f_X12_87 dX12_finds_90 rfl rfl hM rfl ?_
      refine r_iload_n (i := 3) C dX12_finds_93 rfl rfl ?_
      obtain ⟨g26, E⟩ := gd_elim E
      refine rm_iald (k := 27) C dX12_finds_94 hM rfl rfl g26 ?_
      refine r_iload_n (i := 2) C dX12_finds_95 rfl rfl ?_
      refine r_ic_ne (tgt := 104) C dX12_finds_96 (by decide) (fun c_96 => ?_) (fun c_96 => ?_)
      · have E := ite_f E c_96
        refine r_iinc1 (i := 3) C dX12_finds_104 rfl ?_
        refine r_goto (tgt := 81) C dX12_finds_107 (by decide) ?_
        exact ih _ _ E hK0
      · have E := ite_t E c_96
        refine r_aload_n (i := 0) C dX12_finds_99 rfl rfl (by first | rfl | exact isR_rf _) ?_
        refine r_iload_n (i := 3) C dX12_finds_100 rfl rfl ?_
        obtain ⟨S28, q, E⟩ := bd_elim E
        refine r_callVn C v_X12_240 (z_findsValues _ _ hM q) dX12_finds_101 hM.1 (ci := 10) (by decide) rfl rfl (As := [_]) rfl rfl rfl (by first | exact Nat.le_refl _ | exact Nat.le_of_ble_eq_true rfl | omega) (Nat.le_of_ble_eq_true rfl) (by first | exact Nat.le_refl _ | exact Nat.le_of_ble_eq_true rfl | omega) (by first | exact Nat.le_refl _ | exact Nat.le_of_ble_eq_true rfl | omega) ?_
        refine r_iinc1 (i := 3) C dX12_finds_104 rfl ?_
        refine r_goto (tgt := 81) C dX12_finds_107 (by decide) ?_
        exact ih _ _ E hK0
def m_finds_172 (K0 : MM → Option (MM)) (x2 : Int32) : Nat → Int32 → MM → Option (MM)
  | 0, _, _ => none
  | fu + 1, x3, S => if (S 3 0) ≤ x3 then (K0 S) else (if x2 ≤ (0 : Int32) then (K0 S) else (if ix x3 24 then if (S 27 (tn x3)) = (x2 - (1 : Int32)) then (bd (m_findsWidths S x3) fun S45 => (m_finds_172 K0 x2 fu (x3 + 1) S45)) else (m_finds_172 K0 x2 fu (x3 + 1) S) else none))
theorem z_finds_172 {X : Ctx} {m : Nat} {h : Hp} (C : Cx X yX12_finds cX12_finds 4 none [] 5 0 0) (hM : MW m h) {K0 : MM → Option (MM)} {x2 : Int32} {v1 : Value} {r : MM} (E0 : Ex X 0 0 (.inl (none, pm m h r))) : ∀ (fu : Nat) (x3 : Int32) (S : MM) , m_finds_172 K0 x2 fu x3 S = some r → (∀ (S2 : MM) (u3 : Value) , K0 S2 = some r → wr X 0 0 207 [.ref m, v1, .int x2, u3] [] (pm m h S2)) → wr X 0 0 172 [.ref m, v1, .int x2, .int x3] [] (pm m h S) := by
  intro fu
  induction fu with
  | zero =>
    intro x3 S E hK0
    rw [m_finds_172] at E
    cases E
  | succ fu ih =>
    intro x3 S E hK0
    rw [m_finds_172] at E
    refine r_iload_n (i := 3) C dX12_finds_172 rfl rfl ?_
    refine r_aload_n (i := 0) C dX12_finds_173 rfl rfl (by first | rfl | exact isR_rf _) ?_
    refine rm_get (k := 3) C f_X12_16 dX12_finds_174 rfl rfl hM rfl ?_
    refine r_ic_ge (tgt := 207) C dX12_finds_177 (by decide) (fun c_177 => ?_) (fun c_177 => ?_)
    · have E := ite_t E c_177
      exact hK0 _ _ E
    · have E := ite_f E c_177
      refine r_iload_n (i := 2) C dX12_finds_180 rfl rfl ?_
      refine r_if_le (tgt := 207) C dX12_finds_181 (by decide) (fun c_181 => ?_) (fun c_181 => ?_)
      · have E := ite_t E c_181
        exact hK0 _ _ E
      · have E := ite_f E c_181
        refine r_aload_n (i := 0) C dX12_finds_184 rfl rfl (by first | rfl | exact isR_rf _) ?_
        refine rm_ref (k := 27) C f_X12_87 dX12_finds_185 rfl rfl hM rfl ?_
        refine r_iload_n (i := 3) C dX12_finds_188 rfl rfl ?_
        obtain ⟨g43, E⟩ := gd_elim E
        refine rm_iald (k := 27) C dX12_finds_189 hM rfl rfl g43 ?_
        refine r_iload_n (i := 2) C dX12_finds_190 rfl rfl ?_
        refine r_iconst (v := 1) C dX12_finds_191 (by decide) ?_
        refine r_isub C dX12_finds_192 ?_
        refine r_ic_ne (tgt := 201) C dX12_finds_193 (by decide) (fun c_193 => ?_) (fun c_193 => ?_)
        · have E := ite_f E c_193
          refine r_iinc1 (i := 3) C dX12_finds_201 rfl ?_
          refine r_goto (tgt := 172) C dX12_finds_204 (by decide) ?_
          exact ih _ _ E hK0
        · have E := ite_t E c_193
          refine r_aload_n (i := 0) C dX12_finds_196 rfl rfl (by first | rfl | exact isR_rf _) ?_
          refine r_iload_n (i := 3) C dX12_finds_197 rfl rfl ?_
          obtain ⟨S45, q, E⟩ := bd_elim E
          refine r_callVn C v_X12_243 (z_findsWidths _ _ hM q) dX12_finds_198 hM.1 (ci := 10) (by decide) rfl rfl (As := [_]) rfl rfl rfl (by first | exact Nat.le_refl _ | exact Nat.le_of_ble_eq_true rfl | omega) (Nat.le_of_ble_eq_true rfl) (by first | exact Nat.le_refl _ | exact Nat.le_of_ble_eq_true rfl | omega) (by first | exact Nat.le_refl _ | exact Nat.le_of_ble_eq_true rfl | omega) ?_
          refine r_iinc1 (i := 3) C dX12_finds_201 rfl ?_
          refine r_goto (tgt := 172) C dX12_finds_204 (by decide) ?_
          exact ih _ _ E hK0
def m_finds_74 (K0 : MM → Option (MM)) (x1 : Int32) : Nat → Int32 → MM → Option (MM)
  | 0, _, _ => none
  | fu + 1, x2, S => if x1 < x2 then (K0 S) else (m_finds_81 (fun S30 => if x2 = (0 : Int32) then (if m_of_g S30 (0 : Int32) (5 : Int32) then bnd (if (m_of S30 (0 : Int32) (5 : Int32)) = (3 : Int32) then (0 : Int32) else (1 : Int32)) fun p52 => if ix (0 : Int32) 24 then if (p52 = 0 ∨ p52 = 1) then bnd (u2 S30 28 (tn (0 : Int32)) p52) fun S53 => (if m_of_g S53 (0 : Int32) (0 : Int32) then bnd (if (m_of S53 (0 : Int32) (0 : Int32)) = ((-2) : Int32) then S53 1 0 else m_of S53 (0 : Int32) (0 : Int32)) fun p60 => if m_capped_g S53 (0 : Int32) p60 then if ix (2 : Int32) 96 then bnd (u2 S53 25 (tn (2 : Int32)) (m_capped S53 (0 : Int32) p60)) fun S63 => (m_finds_172 (fun S66 => m_finds_74 K0 x1 fu (x2 + 1) S66) x2 1000 (0 : Int32) S63) else none else none else none) else none else none else none) else (m_finds_172 (fun S47 => m_finds_74 K0 x1 fu (x2 + 1) S47) x2 1000 (0 : Int32) S30)) x2 1000 (0 : Int32) S)
theorem z_finds_74 {X : Ctx} {m : Nat} {h : Hp} (C : Cx X yX12_finds cX12_finds 4 none [] 5 0 0) (hM : MW m h) {K0 : MM → Option (MM)} {x1 : Int32} {r : MM} (E0 : Ex X 0 0 (.inl (none, pm m h r))) : ∀ (fu : Nat) (x2 : Int32) (S : MM) (u3 : Value) , m_finds_74 K0 x1 fu x2 S = some r → (∀ (S2 : MM) (u2 u3 : Value) , K0 S2 = some r → wr X 0 0 213 [.ref m, .int x1, u2, u3] [] (pm m h S2)) → wr X 0 0 74 [.ref m, .int x1, .int x2, u3] [] (pm m h S) := by
  intro fu
  induction fu with
  | zero =>
    intro x2 S u3 E hK0
    rw [m_finds_74] at E
    cases E
  | succ fu ih =>
    intro x2 S u3 E hK0
    rw [m_finds_74] at E
    refine r_iload_n (i := 2) C dX12_finds_74 rfl rfl ?_
    refine r_iload_n (i := 1) C dX12_finds_75 rfl rfl ?_
    refine r_ic_gt (tgt := 213) C dX12_finds_76 (by decide) (fun c_76 => ?_) (fun c_76 => ?_)
    · have E := ite_t E c_76
      exact hK0 _ _ _ E
    · have E := ite_f E c_76
      refine r_iconst (v := 0) C dX12_finds_79 (by decide) ?_
      refine r_istore_n (i := 3) C dX12_finds_80 rfl (Nat.le_of_ble_eq_true rfl) ?_
      refine z_finds_81 C hM E0 _ _ _ E (fun S30 w29 E => ?_)
      refine r_iload_n (i := 2) C dX12_finds_110 rfl rfl ?_
      refine r_if_ne (tgt := 170) C dX12_finds_111 (by decide) (fun c_111 => ?_) (fun c_111 => ?_)
      · have E := ite_f E c_111
        refine r_iconst (v := 0) C dX12_finds_170 (by decide) ?_
        refine r_istore_n (i := 3) C dX12_finds_171 rfl (Nat.le_of_ble_eq_true rfl) ?_
        refine z_finds_172 C hM E0 _ _ _ E (fun S47 w46 E => ?_)
        refine r_iinc1 (i := 2) C dX12_finds_207 rfl ?_
        refine r_goto (tgt := 74) C dX12_finds_210 (by decide) ?_
        exact ih _ _ _ E hK0
      · have E := ite_t E c_111
        refine r_aload_n (i := 0) C dX12_finds_114 rfl rfl (by first | rfl | exact isR_rf _) ?_
        refine rm_ref (k := 28) C f_X12_90 dX12_finds_115 rfl rfl hM rfl ?_
        refine r_iconst (v := 0) C dX12_finds_118 (by decide) ?_
        refine r_aload_n (i := 0) C dX12_finds_119 rfl rfl (by first | rfl | exact isR_rf _) ?_
        refine r_iconst (v := 0) C dX12_finds_120 (by decide) ?_
        refine r_iconst (v := 5) C dX12_finds_121 (by decide) ?_
        obtain ⟨g49, E⟩ := gd_elim E
        refine r_callVs C v_X12_223 (z_of _ _ hM g49) dX12_finds_122 hM.1 (ci := 10) (by decide) rfl rfl (As := [_, _]) rfl rfl rfl (by first | exact Nat.le_refl _ | exact Nat.le_of_ble_eq_true rfl | omega) (Nat.le_of_ble_eq_true rfl) (by first | exact Nat.le_refl _ | exact Nat.le_of_ble_eq_true rfl | omega) (by first | exact Nat.le_refl _ | exact Nat.le_of_ble_eq_true rfl | omega) ?_
        refine r_iconst (v := 3) C dX12_finds_125 (by decide) ?_
        have J51 : ∀ (u : Unit), wr X 0 0 134 [.ref m, .int x1, .int x2, w29] [.int (if (m_of S30 (0 : Int32) (5 : Int32)) = (3 : Int32) then (0 : Int32) else (1 : Int32)), .int (0 : Int32), .ref (m + mad 28)] (pm m h S30) := by
          intro u
          refine bnd_elim (P := fun (z : Int32) => wr X 0 0 134 [.ref m, .int x1, .int x2, w29] [.int z, .int (0 : Int32), .ref (m + mad 28)] (pm m h S30)) E (fun p52 E => ?_)
          obtain ⟨g54, E⟩ := gd_elim E
          obtain ⟨g55, E⟩ := gd_elim E
          refine rm_zast (k := 28) C dX12_finds_134 hM rfl rfl g54 g55 ?_
          refine bnd_elim (P := fun (Z : MM) => wr X 0 0 135 [.ref m, .int x1, .int x2, w29] [] (pm m h Z)) E (fun S53 E => ?_)
          refine r_aload_n (i := 0) C dX12_finds_135 rfl rfl (by first | rfl | exact isR_rf _) ?_
          refine rm_ref (k := 25) C f_X12_81 dX12_finds_136 rfl rfl hM rfl ?_
          refine r_iconst (v := 2) C dX12_finds_139 (by decide) ?_
          refine r_aload_n (i := 0) C dX12_finds_140 rfl rfl (by first | rfl | exact isR_rf _) ?_
          refine r_iconst (v := 0) C dX12_finds_141 (by decide) ?_
          refine r_aload_n (i := 0) C dX12_finds_142 rfl rfl (by first | rfl | exact isR_rf _) ?_
          refine r_iconst (v := 0) C dX12_finds_143 (by decide) ?_
          refine r_iconst (v := 0) C dX12_finds_144 (by decide) ?_
          obtain ⟨g57, E⟩ := gd_elim E
          refine r_callVs C v_X12_223 (z_of _ _ hM g57) dX12_finds_145 hM.1 (ci := 10) (by decide) rfl rfl (As := [_, _]) rfl rfl rfl (by first | exact Nat.le_refl _ | exact Nat.le_of_ble_eq_true rfl | omega) (Nat.le_of_ble_eq_true rfl) (by first | exact Nat.le_refl _ | exact Nat.le_of_ble_eq_true rfl | omega) (by first | exact Nat.le_refl _ | exact Nat.le_of_ble_eq_true rfl | omega) ?_
          refine r_bipush (v := (-2)) C dX12_finds_148 (by decide) ?_
          have J59 : ∀ (u : Unit), wr X 0 0 166 [.ref m, .int x1, .int x2, w29] [.int (if (m_of S53 (0 : Int32) (0 : Int32)) = ((-2) : Int32) then S53 1 0 else m_of S53 (0 : Int32) (0 : Int32)), .int (0 : Int32), .ref m, .int (2 : Int32), .ref (m + mad 25)] (pm m h S53) := by
            intro u
            refine bnd_elim (P := fun (z : Int32) => wr X 0 0 166 [.ref m, .int x1, .int x2, w29] [.int z, .int (0 : Int32), .ref m, .int (2 : Int32), .ref (m + mad 25)] (pm m h S53)) E (fun p60 E => ?_)
            obtain ⟨g62, E⟩ := gd_elim E
            refine r_callVs C v_X12_229 (z_capped _ _ hM g62) dX12_finds_166 hM.1 (ci := 10) (by decide) rfl rfl (As := [_, _]) rfl rfl rfl (by first | exact Nat.le_refl _ | exact Nat.le_of_ble_eq_true rfl | omega) (Nat.le_of_ble_eq_true rfl) (by first | exact Nat.le_refl _ | exact Nat.le_of_ble_eq_true rfl | omega) (by first | exact Nat.le_refl _ | exact Nat.le_of_ble_eq_true rfl | omega) ?_
            obtain ⟨g64, E⟩ := gd_elim E
            refine rm_iast (k := 25) C dX12_finds_169 hM rfl rfl g64 ?_
            refine bnd_elim (P := fun (Z : MM) => wr X 0 0 170 [.ref m, .int x1, .int x2, w29] [] (pm m h Z)) E (fun S63 E => ?_)
            refine r_iconst (v := 0) C dX12_finds_170 (by decide) ?_
            refine r_istore_n (i := 3) C dX12_finds_171 rfl (Nat.le_of_ble_eq_true rfl) ?_
            refine z_finds_172 C hM E0 _ _ _ E (fun S66 w65 E => ?_)
            refine r_iinc1 (i := 2) C dX12_finds_207 rfl ?_
            refine r_goto (tgt := 74) C dX12_finds_210 (by decide) ?_
            exact ih _ _ _ E hK0
          refine r_ic_ne (tgt := 160) C dX12_finds_150 (by decide) (fun c_150_k58 => ?_) (fun c_150_k58 => ?_)
          · refine r_aload_n (i := 0) C dX12_finds_160 rfl rfl (by first | rfl | exact isR_rf _) ?_
            refine r_iconst (v := 0) C dX12_finds_161 (by decide) ?_
            refine r_iconst (v := 0) C dX12_finds_162 (by decide) ?_
            refine r_callVs C v_X12_223 (z_of _ _ hM g57) dX12_finds_163 hM.1 (ci := 10) (by decide) rfl rfl (As := [_, _]) rfl rfl rfl (by first | exact Nat.le_refl _ | exact Nat.le_of_ble_eq_true rfl | omega) (Nat.le_of_ble_eq_true rfl) (by first | exact Nat.le_refl _ | exact Nat.le_of_ble_eq_true rfl | omega) (by first | exact Nat.le_refl _ | exact Nat.le_of_ble_eq_true rfl | omega) ?_
            first | exact (J59  ()) | (simp only [if_neg c_150_k58] at J59; exact (J59  ()))
          · refine r_aload_n (i := 0) C dX12_finds_153 rfl rfl (by first | rfl | exact isR_rf _) ?_
            refine rm_get (k := 1) C f_X12_7 dX12_finds_154 rfl rfl hM rfl ?_
            refine r_goto (tgt := 166) C dX12_finds_157 (by decide) ?_
            first | exact (J59  ()) | (simp only [if_pos c_150_k58] at J59; exact (J59  ()))
        refine r_ic_eq (tgt := 133) C dX12_finds_126 (by decide) (fun c_126_k50 => ?_) (fun c_126_k50 => ?_)
        · refine r_iconst (v := 0) C dX12_finds_133 (by decide) ?_
          first | exact (J51  ()) | (simp only [if_pos c_126_k50] at J51; exact (J51  ()))
        · refine r_iconst (v := 1) C dX12_finds_129 (by decide) ?_
          refine r_goto (tgt := 134) C dX12_finds_130 (by decide) ?_
          first | exact (J51  ()) | (simp only [if_neg c_126_k50] at J51; exact (J51  ()))
def m_finds_221 (K0 : MM → Option (MM)) (x2 : Int32) : Nat → Int32 → MM → Option (MM)
  | 0, _, _ => none
  | fu + 1, x3, S => if (S 3 0) ≤ x3 then (K0 S) else (if ix x3 24 then if (S 27 (tn x3)) = x2 then (if (S 28 (tn x3)) = (0 : Int32) then (m_finds_221 K0 x2 fu (x3 + 1) S) else (bd (m_findsHeight S x3) fun S80 => (m_finds_221 K0 x2 fu (x3 + 1) S80))) else (m_finds_221 K0 x2 fu (x3 + 1) S) else none)
theorem z_finds_221 {X : Ctx} {m : Nat} {h : Hp} (C : Cx X yX12_finds cX12_finds 4 none [] 5 0 0) (hM : MW m h) {K0 : MM → Option (MM)} {x2 : Int32} {r : MM} (E0 : Ex X 0 0 (.inl (none, pm m h r))) : ∀ (fu : Nat) (x3 : Int32) (S : MM) (u1 : Value) , m_finds_221 K0 x2 fu x3 S = some r → (∀ (S2 : MM) (u1 u3 : Value) , K0 S2 = some r → wr X 0 0 259 [.ref m, u1, .int x2, u3] [] (pm m h S2)) → wr X 0 0 221 [.ref m, u1, .int x2, .int x3] [] (pm m h S) := by
  intro fu
  induction fu with
  | zero =>
    intro x3 S u1 E hK0
    rw [m_finds_221] at E
    cases E
  | succ fu ih =>
    intro x3 S u1 E hK0
    rw [m_finds_221] at E
    refine r_iload_n (i := 3) C dX12_finds_221 rfl rfl ?_
    refine r_aload_n (i := 0) C dX12_finds_222 rfl rfl (by first | rfl | exact isR_rf _) ?_
    refine rm_get (k := 3) C f_X12_16 dX12_finds_223 rfl rfl hM rfl ?_
    refine r_ic_ge (tgt := 259) C dX12_finds_226 (by decide) (fun c_226 => ?_) (fun c_226 => ?_)
    · have E := ite_t E c_226
      exact hK0 _ _ _ E
    · have E := ite_f E c_226
      refine r_aload_n (i := 0) C dX12_finds_229 rfl rfl (by first | rfl | exact isR_rf _) ?_
      refine rm_ref (k := 27) C f_X12_87 dX12_finds_230 rfl rfl hM rfl ?_
      refine r_iload_n (i := 3) C dX12_finds_233 rfl rfl ?_
      obtain ⟨g76, E⟩ := gd_elim E
      refine rm_iald (k := 27) C dX12_finds_234 hM rfl rfl g76 ?_
      refine r_iload_n (i := 2) C dX12_finds_235 rfl rfl ?_
      refine r_ic_ne (tgt := 253) C dX12_finds_236 (by decide) (fun c_236 => ?_) (fun c_236 => ?_)
      · have E := ite_f E c_236
        refine r_iinc1 (i := 3) C dX12_finds_253 rfl ?_
        refine r_goto (tgt := 221) C dX12_finds_256 (by decide) ?_
        exact ih _ _ _ E hK0
      · have E := ite_t E c_236
        refine r_aload_n (i := 0) C dX12_finds_239 rfl rfl (by first | rfl | exact isR_rf _) ?_
        refine rm_ref (k := 28) C f_X12_90 dX12_finds_240 rfl rfl hM rfl ?_
        refine r_iload_n (i := 3) C dX12_finds_243 rfl rfl ?_
        refine rm_zald (k := 28) C dX12_finds_244 hM rfl rfl g76 ?_
        refine r_if_eq (tgt := 253) C dX12_finds_245 (by decide) (fun c_245 => ?_) (fun c_245 => ?_)
        · have E := ite_t E c_245
          refine r_iinc1 (i := 3) C dX12_finds_253 rfl ?_
          refine r_goto (tgt := 221) C dX12_finds_256 (by decide) ?_
          exact ih _ _ _ E hK0
        · have E := ite_f E c_245
          refine r_aload_n (i := 0) C dX12_finds_248 rfl rfl (by first | rfl | exact isR_rf _) ?_
          refine r_iload_n (i := 3) C dX12_finds_249 rfl rfl ?_
          obtain ⟨S80, q, E⟩ := bd_elim E
          refine r_callVn C v_X12_246 (z_findsHeight _ _ hM q) dX12_finds_250 hM.1 (ci := 10) (by decide) rfl rfl (As := [_]) rfl rfl rfl (by first | exact Nat.le_refl _ | exact Nat.le_of_ble_eq_true rfl | omega) (Nat.le_of_ble_eq_true rfl) (by first | exact Nat.le_refl _ | exact Nat.le_of_ble_eq_true rfl | omega) (by first | exact Nat.le_refl _ | exact Nat.le_of_ble_eq_true rfl | omega) ?_
          refine r_iinc1 (i := 3) C dX12_finds_253 rfl ?_
          refine r_goto (tgt := 221) C dX12_finds_256 (by decide) ?_
          exact ih _ _ _ E hK0
def m_finds_215 (K0 : MM → Option (MM)) : Nat → Int32 → MM → Option (MM)
  | 0, _, _ => none
  | fu + 1, x2, S => if x2 < (0 : Int32) then (K0 S) else (m_finds_221 (fun S83 => m_finds_215 K0 fu (x2 + Int32.ofInt (-1)) S83) x2 1000 (0 : Int32) S)
theorem z_finds_215 {X : Ctx} {m : Nat} {h : Hp} (C : Cx X yX12_finds cX12_finds 4 none [] 5 0 0) (hM : MW m h) {K0 : MM → Option (MM)} {r : MM} (E0 : Ex X 0 0 (.inl (none, pm m h r))) : ∀ (fu : Nat) (x2 : Int32) (S : MM) (u1 u3 : Value) , m_finds_215 K0 fu x2 S = some r → (∀ (S2 : MM) (u1 u2 u3 : Value) , K0 S2 = some r → wr X 0 0 265 [.ref m, u1, u2, u3] [] (pm m h S2)) → wr X 0 0 215 [.ref m, u1, .int x2, u3] [] (pm m h S) := by
  intro fu
  induction fu with
  | zero =>
    intro x2 S u1 u3 E hK0
    rw [m_finds_215] at E
    cases E
  | succ fu ih =>
    intro x2 S u1 u3 E hK0
    rw [m_finds_215] at E
    refine r_iload_n (i := 2) C dX12_finds_215 rfl rfl ?_
    refine r_if_lt (tgt := 265) C dX12_finds_216 (by decide) (fun c_216 => ?_) (fun c_216 => ?_)
    · have E := ite_t E c_216
      exact hK0 _ _ _ _ E
    · have E := ite_f E c_216
      refine r_iconst (v := 0) C dX12_finds_219 (by decide) ?_
      refine r_istore_n (i := 3) C dX12_finds_220 rfl (Nat.le_of_ble_eq_true rfl) ?_
      refine z_finds_221 C hM E0 _ _ _ _ E (fun S83 w81 w82 E => ?_)
      refine r_iinc (i := 2) C dX12_finds_259 rfl rfl ?_
      refine r_goto (tgt := 215) C dX12_finds_262 (by decide) ?_
      exact ih _ _ _ _ E hK0
def m_finds_362 (K0 : MM → Option (MM)) (x2 : Int32) : Nat → Int32 → MM → Option (MM)
  | 0, _, _ => none
  | fu + 1, x3, S => if (4 : Int32) ≤ x3 then (K0 S) else (if ix x2 24 then if (S 28 (tn x2)) = (0 : Int32) then (if ix (((4 : Int32) * x2) + x3) 96 then bnd (u2 S 25 (tn (((4 : Int32) * x2) + x3)) ((-1) : Int32)) fun S110 => (bnd (u2 S110 26 (tn x2) (0 : Int32)) fun S112 => (m_finds_362 K0 x2 fu (x3 + 1) S112)) else none) else (K0 S) else none)
theorem z_finds_362 {X : Ctx} {m : Nat} {h : Hp} (C : Cx X yX12_finds cX12_finds 4 none [] 5 0 0) (hM : MW m h) {K0 : MM → Option (MM)} {x2 : Int32} {r : MM} (E0 : Ex X 0 0 (.inl (none, pm m h r))) : ∀ (fu : Nat) (x3 : Int32) (S : MM) (u1 : Value) , m_finds_362 K0 x2 fu x3 S = some r → (∀ (S2 : MM) (u1 u3 : Value) , K0 S2 = some r → wr X 0 0 400 [.ref m, u1, .int x2, u3] [] (pm m h S2)) → wr X 0 0 362 [.ref m, u1, .int x2, .int x3] [] (pm m h S) := by
  intro fu
  induction fu with
  | zero =>
    intro x3 S u1 E hK0
    rw [m_finds_362] at E
    cases E
  | succ fu ih =>
    intro x3 S u1 E hK0
    rw [m_finds_362] at E
    refine r_iload_n (i := 3) C dX12_finds_362 rfl rfl ?_
    refine r_iconst (v := 4) C dX12_finds_363 (by decide) ?_
    refine r_ic_ge (tgt := 400) C dX12_finds_364 (by decide) (fun c_364 => ?_) (fun c_364 => ?_)
    · have E := ite_t E c_364
      exact hK0 _ _ _ E
    · have E := ite_f E c_364
      refine r_aload_n (i := 0) C dX12_finds_367 rfl rfl (by first | rfl | exact isR_rf _) ?_
      refine rm_ref (k := 28) C f_X12_90 dX12_finds_368 rfl rfl hM rfl ?_
      refine r_iload_n (i := 2) C dX12_finds_371 rfl rfl ?_
      obtain ⟨g108, E⟩ := gd_elim E
      refine rm_zald (k := 28) C dX12_finds_372 hM rfl rfl g108 ?_
      refine r_if_ne (tgt := 400) C dX12_finds_373 (by decide) (fun c_373 => ?_) (fun c_373 => ?_)
      · have E := ite_f E c_373
        exact hK0 _ _ _ E
      · have E := ite_t E c_373
        refine r_aload_n (i := 0) C dX12_finds_376 rfl rfl (by first | rfl | exact isR_rf _) ?_
        refine rm_ref (k := 25) C f_X12_81 dX12_finds_377 rfl rfl hM rfl ?_
        refine r_iconst (v := 4) C dX12_finds_380 (by decide) ?_
        refine r_iload_n (i := 2) C dX12_finds_381 rfl rfl ?_
        refine r_imul C dX12_finds_382 ?_
        refine r_iload_n (i := 3) C dX12_finds_383 rfl rfl ?_
        refine r_iadd C dX12_finds_384 ?_
        refine r_iconst (v := (-1)) C dX12_finds_385 (by decide) ?_
        obtain ⟨g111, E⟩ := gd_elim E
        refine rm_iast (k := 25) C dX12_finds_386 hM rfl rfl g111 ?_
        refine bnd_elim (P := fun (Z : MM) => wr X 0 0 387 [.ref m, u1, .int x2, .int x3] [] (pm m h Z)) E (fun S110 E => ?_)
        refine r_aload_n (i := 0) C dX12_finds_387 rfl rfl (by first | rfl | exact isR_rf _) ?_
        refine rm_ref (k := 26) C f_X12_84 dX12_finds_388 rfl rfl hM rfl ?_
        refine r_iload_n (i := 2) C dX12_finds_391 rfl rfl ?_
        refine r_iconst (v := 0) C dX12_finds_392 (by decide) ?_
        refine rm_iast (k := 26) C dX12_finds_393 hM rfl rfl g108 ?_
        refine bnd_elim (P := fun (Z : MM) => wr X 0 0 394 [.ref m, u1, .int x2, .int x3] [] (pm m h Z)) E (fun S112 E => ?_)
        refine r_iinc1 (i := 3) C dX12_finds_394 rfl ?_
        refine r_goto (tgt := 362) C dX12_finds_397 (by decide) ?_
        exact ih _ _ _ E hK0
def m_finds_281 : Nat → Int32 → MM → Option (MM)
  | 0, _, _ => none
  | fu + 1, x2, S => if (S 3 0) ≤ x2 then (some S) else (if ix x2 24 then if (S 28 (tn x2)) = (0 : Int32) then (m_finds_362 (fun S115 => m_finds_281 fu (x2 + 1) S115) x2 1000 (0 : Int32) S) else (if (S 5 (tn x2)) = ((-1) : Int32) then (m_finds_362 (fun S121 => m_finds_281 fu (x2 + 1) S121) x2 1000 (0 : Int32) S) else (if ix ((4 : Int32) * x2) 96 then if ix ((4 : Int32) * (S 5 (tn x2))) 96 then bnd (u2 S 25 (tn ((4 : Int32) * x2)) ((S 25 (tn ((4 : Int32) * x2))) + (S 25 (tn ((4 : Int32) * (S 5 (tn x2))))))) fun S126 => (if ix (((4 : Int32) * x2) + (1 : Int32)) 96 then if ix (((4 : Int32) * (S126 5 (tn x2))) + (1 : Int32)) 96 then bnd (u2 S126 25 (tn (((4 : Int32) * x2) + (1 : Int32))) ((S126 25 (tn (((4 : Int32) * x2) + (1 : Int32)))) + (S126 25 (tn (((4 : Int32) * (S126 5 (tn x2))) + (1 : Int32)))))) fun S131 => (m_finds_362 (fun S134 => m_finds_281 fu (x2 + 1) S134) x2 1000 (0 : Int32) S131) else none else none) else none else none)) else none)
theorem z_finds_281 {X : Ctx} {m : Nat} {h : Hp} (C : Cx X yX12_finds cX12_finds 4 none [] 5 0 0) (hM : MW m h) {r : MM} (E0 : Ex X 0 0 (.inl (none, pm m h r))) : ∀ (fu : Nat) (x2 : Int32) (S : MM) (u1 u3 : Value) , m_finds_281 fu x2 S = some r → wr X 0 0 281 [.ref m, u1, .int x2, u3] [] (pm m h S) := by
  intro fu
  induction fu with
  | zero =>
    intro x2 S u1 u3 E 
    rw [m_finds_281] at E
    cases E
  | succ fu ih =>
    intro x2 S u1 u3 E 
    rw [m_finds_281] at E
    refine r_iload_n (i := 2) C dX12_finds_281 rfl rfl ?_
    refine r_aload_n (i := 0) C dX12_finds_282 rfl rfl (by first | rfl | exact isR_rf _) ?_
    refine rm_get (k := 3) C f_X12_16 dX12_finds_283 rfl rfl hM rfl ?_
    refine r_ic_ge (tgt := 406) C dX12_finds_286 (by decide) (fun c_286 => ?_) (fun c_286 => ?_)
    · have E := ite_t E c_286
      obtain rfl := Option.some.inj E
      exact r_vret C E0 dX12_finds_406 rfl (Nat.le_refl _) (Nat.le_refl _)
    · have E := ite_f E c_286
      refine r_aload_n (i := 0) C dX12_finds_289 rfl rfl (by first | rfl | exact isR_rf _) ?_
      refine rm_ref (k := 28) C f_X12_90 dX12_finds_290 rfl rfl hM rfl ?_
      refine r_iload_n (i := 2) C dX12_finds_293 rfl rfl ?_
      obtain ⟨g99, E⟩ := gd_elim E
      refine rm_zald (k := 28) C dX12_finds_294 hM rfl rfl g99 ?_
      refine r_if_eq (tgt := 360) C dX12_finds_295 (by decide) (fun c_295 => ?_) (fun c_295 => ?_)
      · have E := ite_t E c_295
        refine r_iconst (v := 0) C dX12_finds_360 (by decide) ?_
        refine r_istore_n (i := 3) C dX12_finds_361 rfl (Nat.le_of_ble_eq_true rfl) ?_
        refine z_finds_362 C hM E0 _ _ _ _ E (fun S115 w113 w114 E => ?_)
        refine r_iinc1 (i := 2) C dX12_finds_400 rfl ?_
        refine r_goto (tgt := 281) C dX12_finds_403 (by decide) ?_
        exact ih _ _ _ _ E
      · have E := ite_f E c_295
        refine r_aload_n (i := 0) C dX12_finds_298 rfl rfl (by first | rfl | exact isR_rf _) ?_
        refine rm_ref (k := 5) C f_X12_23 dX12_finds_299 rfl rfl hM rfl ?_
        refine r_iload_n (i := 2) C dX12_finds_302 rfl rfl ?_
        refine rm_iald (k := 5) C dX12_finds_303 hM rfl rfl g99 ?_
        refine r_iconst (v := (-1)) C dX12_finds_304 (by decide) ?_
        refine r_ic_eq (tgt := 360) C dX12_finds_305 (by decide) (fun c_305 => ?_) (fun c_305 => ?_)
        · have E := ite_t E c_305
          refine r_iconst (v := 0) C dX12_finds_360 (by decide) ?_
          refine r_istore_n (i := 3) C dX12_finds_361 rfl (Nat.le_of_ble_eq_true rfl) ?_
          refine z_finds_362 C hM E0 _ _ _ _ E (fun S121 w119 w120 E => ?_)
          refine r_iinc1 (i := 2) C dX12_finds_400 rfl ?_
          refine r_goto (tgt := 281) C dX12_finds_403 (by decide) ?_
          exact ih _ _ _ _ E
        · have E := ite_f E c_305
          refine r_aload_n (i := 0) C dX12_finds_308 rfl rfl (by first | rfl | exact isR_rf _) ?_
          refine rm_ref (k := 25) C f_X12_81 dX12_finds_309 rfl rfl hM rfl ?_
          refine r_iconst (v := 4) C dX12_finds_312 (by decide) ?_
          refine r_iload_n (i := 2) C dX12_finds_313 rfl rfl ?_
          refine r_imul C dX12_finds_314 ?_
          refine r_dup2 C (by first | rfl | exact isR_cat (isR_rf _)) (by first | rfl | exact isR_cat (isR_rf _)) dX12_finds_315 ?_
          obtain ⟨g123, E⟩ := gd_elim E
          refine rm_iald (k := 25) C dX12_finds_316 hM rfl rfl g123 ?_
          refine r_aload_n (i := 0) C dX12_finds_317 rfl rfl (by first | rfl | exact isR_rf _) ?_
          refine rm_ref (k := 25) C f_X12_81 dX12_finds_318 rfl rfl hM rfl ?_
          refine r_iconst (v := 4) C dX12_finds_321 (by decide) ?_
          refine r_aload_n (i := 0) C dX12_finds_322 rfl rfl (by first | rfl | exact isR_rf _) ?_
          refine rm_ref (k := 5) C f_X12_23 dX12_finds_323 rfl rfl hM rfl ?_
          refine r_iload_n (i := 2) C dX12_finds_326 rfl rfl ?_
          refine rm_iald (k := 5) C dX12_finds_327 hM rfl rfl g99 ?_
          refine r_imul C dX12_finds_328 ?_
          obtain ⟨g125, E⟩ := gd_elim E
          refine rm_iald (k := 25) C dX12_finds_329 hM rfl rfl g125 ?_
          refine r_iadd C dX12_finds_330 ?_
          refine rm_iast (k := 25) C dX12_finds_331 hM rfl rfl g123 ?_
          refine bnd_elim (P := fun (Z : MM) => wr X 0 0 332 [.ref m, u1, .int x2, u3] [] (pm m h Z)) E (fun S126 E => ?_)
          refine r_aload_n (i := 0) C dX12_finds_332 rfl rfl (by first | rfl | exact isR_rf _) ?_
          refine rm_ref (k := 25) C f_X12_81 dX12_finds_333 rfl rfl hM rfl ?_
          refine r_iconst (v := 4) C dX12_finds_336 (by decide) ?_
          refine r_iload_n (i := 2) C dX12_finds_337 rfl rfl ?_
          refine r_imul C dX12_finds_338 ?_
          refine r_iconst (v := 1) C dX12_finds_339 (by decide) ?_
          refine r_iadd C dX12_finds_340 ?_
          refine r_dup2 C (by first | rfl | exact isR_cat (isR_rf _)) (by first | rfl | exact isR_cat (isR_rf _)) dX12_finds_341 ?_
          obtain ⟨g128, E⟩ := gd_elim E
          refine rm_iald (k := 25) C dX12_finds_342 hM rfl rfl g128 ?_
          refine r_aload_n (i := 0) C dX12_finds_343 rfl rfl (by first | rfl | exact isR_rf _) ?_
          refine rm_ref (k := 25) C f_X12_81 dX12_finds_344 rfl rfl hM rfl ?_
          refine r_iconst (v := 4) C dX12_finds_347 (by decide) ?_
          refine r_aload_n (i := 0) C dX12_finds_348 rfl rfl (by first | rfl | exact isR_rf _) ?_
          refine rm_ref (k := 5) C f_X12_23 dX12_finds_349 rfl rfl hM rfl ?_
          refine r_iload_n (i := 2) C dX12_finds_352 rfl rfl ?_
          refine rm_iald (k := 5) C dX12_finds_353 hM rfl rfl g99 ?_
          refine r_imul C dX12_finds_354 ?_
          refine r_iconst (v := 1) C dX12_finds_355 (by decide) ?_
          refine r_iadd C dX12_finds_356 ?_
          obtain ⟨g130, E⟩ := gd_elim E
          refine rm_iald (k := 25) C dX12_finds_357 hM rfl rfl g130 ?_
          refine r_iadd C dX12_finds_358 ?_
          refine rm_iast (k := 25) C dX12_finds_359 hM rfl rfl g128 ?_
          refine bnd_elim (P := fun (Z : MM) => wr X 0 0 360 [.ref m, u1, .int x2, u3] [] (pm m h Z)) E (fun S131 E => ?_)
          refine r_iconst (v := 0) C dX12_finds_360 (by decide) ?_
          refine r_istore_n (i := 3) C dX12_finds_361 rfl (Nat.le_of_ble_eq_true rfl) ?_
          refine z_finds_362 C hM E0 _ _ _ _ E (fun S134 w132 w133 E => ?_)
          refine r_iinc1 (i := 2) C dX12_finds_400 rfl ?_
          refine r_goto (tgt := 281) C dX12_finds_403 (by decide) ?_
          exact ih _ _ _ _ E
def m_finds (S : MM) : Option (MM) := m_finds_4 (fun p17 S20 => m_finds_74 (fun S69 => m_finds_215 (fun S87 => if ix (0 : Int32) 96 then bnd (u2 S87 25 (tn (0 : Int32)) (0 : Int32)) fun S88 => (if ix (1 : Int32) 96 then bnd (u2 S88 25 (tn (1 : Int32)) (0 : Int32)) fun S90 => (m_finds_281 1000 (0 : Int32) S90) else none) else none) 1000 p17 S69) p17 1000 (0 : Int32) S20) 1000 (0 : Int32) (0 : Int32) S
theorem z_finds (l : Launch) (G : Gl) {m : Nat} {h : Hp} (hM : MW m h) {S : MM} {r : MM} (E : m_finds S = some r) : MRw l G yX12_finds (.code yX12_finds cX12_finds 4 none) 5 0 0 [.ref m] (pm m h S) (.inl (none, pm m h r)) := by
  refine mr_of (by decide +kernel) (Nat.le_of_ble_eq_true rfl) (ct1 rfl) (fun X hG hl C E0 => ?_)
  subst hG hl
  rw [m_finds] at E
  refine r_iconst (v := 0) C dX12_finds_0 (by decide) ?_
  refine r_istore_n (i := 1) C dX12_finds_1 rfl (Nat.le_of_ble_eq_true rfl) ?_
  refine r_iconst (v := 0) C dX12_finds_2 (by decide) ?_
  refine r_istore_n (i := 2) C dX12_finds_3 rfl (Nat.le_of_ble_eq_true rfl) ?_
  refine z_finds_4 C hM E0 _ _ _ _ _ E (fun p17 S20 w18 w19 E => ?_)
  refine r_iconst (v := 0) C dX12_finds_72 (by decide) ?_
  refine r_istore_n (i := 2) C dX12_finds_73 rfl (Nat.le_of_ble_eq_true rfl) ?_
  refine z_finds_74 C hM E0 _ _ _ _ E (fun S69 w67 w68 E => ?_)
  refine r_iload_n (i := 1) C dX12_finds_213 rfl rfl ?_
  refine r_istore_n (i := 2) C dX12_finds_214 rfl (Nat.le_of_ble_eq_true rfl) ?_
  refine z_finds_215 C hM E0 _ _ _ _ _ E (fun S87 w84 w85 w86 E => ?_)
  refine r_aload_n (i := 0) C dX12_finds_265 rfl rfl (by first | rfl | exact isR_rf _) ?_
  refine rm_ref (k := 25) C f_X12_81 dX12_finds_266 rfl rfl hM rfl ?_
  refine r_iconst (v := 0) C dX12_finds_269 (by decide) ?_
  refine r_iconst (v := 0) C dX12_finds_270 (by decide) ?_
  obtain ⟨g89, E⟩ := gd_elim E
  refine rm_iast (k := 25) C dX12_finds_271 hM rfl rfl g89 ?_
  refine bnd_elim (P := fun (Z : MM) => wr X 0 0 272 [.ref m, w84, w85, w86] [] (pm m h Z)) E (fun S88 E => ?_)
  refine r_aload_n (i := 0) C dX12_finds_272 rfl rfl (by first | rfl | exact isR_rf _) ?_
  refine rm_ref (k := 25) C f_X12_81 dX12_finds_273 rfl rfl hM rfl ?_
  refine r_iconst (v := 1) C dX12_finds_276 (by decide) ?_
  refine r_iconst (v := 0) C dX12_finds_277 (by decide) ?_
  obtain ⟨g91, E⟩ := gd_elim E
  refine rm_iast (k := 25) C dX12_finds_278 hM rfl rfl g91 ?_
  refine bnd_elim (P := fun (Z : MM) => wr X 0 0 279 [.ref m, w84, w85, w86] [] (pm m h Z)) E (fun S90 E => ?_)
  refine r_iconst (v := 0) C dX12_finds_279 (by decide) ?_
  refine r_istore_n (i := 2) C dX12_finds_280 rfl (Nat.le_of_ble_eq_true rfl) ?_
  refine z_finds_281 C hM E0 _ _ _ _ _ E

