/-! ===== the model: findsValues, of, capped, widest (by gen.py) ===== -/
def m_findsValues_2 (K0 : MM → Option (MM)) (x1 : Int32) : Nat → Int32 → MM → Option (MM)
  | 0, _, _ => none
  | fu + 1, x2, S => if (S 10 0) ≤ x2 then (K0 S) else (bd (m_isThere S x2 x1) fun p2 => (if ix x2 16 then if (p2 = 0 ∨ p2 = 1) then bnd (u2 S 36 (tn x2) p2) fun S3 => (m_findsValues_2 K0 x1 fu (x2 + 1) S3) else none else none))
theorem z_findsValues_2 {X : Ctx} {m : Nat} {h : Hp} (C : Cx X yX12_findsValues cX12_findsValues 6 none [] 4 0 0) (hM : MW m h) {K0 : MM → Option (MM)} {x1 : Int32} {r : MM} (E0 : Ex X 0 0 (.inl (none, pm m h r))) : ∀ (fu : Nat) (x2 : Int32) (S : MM) (u3 u4 u5 : Value) , m_findsValues_2 K0 x1 fu x2 S = some r → (∀ (S2 : MM) (u2 u3 u4 u5 : Value) , K0 S2 = some r → wr X 0 0 28 [.ref m, .int x1, u2, u3, u4, u5] [] (pm m h S2)) → wr X 0 0 2 [.ref m, .int x1, .int x2, u3, u4, u5] [] (pm m h S) := by
  intro fu
  induction fu with
  | zero =>
    intro x2 S u3 u4 u5 E hK0
    rw [m_findsValues_2] at E
    cases E
  | succ fu ih =>
    intro x2 S u3 u4 u5 E hK0
    rw [m_findsValues_2] at E
    refine r_iload_n (i := 2) C dX12_findsValues_2 rfl rfl ?_
    refine r_aload_n (i := 0) C dX12_findsValues_3 rfl rfl (by first | rfl | exact isR_rf _) ?_
    refine rm_get (k := 10) C f_X12_126 dX12_findsValues_4 rfl rfl hM rfl ?_
    refine r_ic_ge (tgt := 28) C dX12_findsValues_7 (by decide) (fun c_7 => ?_) (fun c_7 => ?_)
    · have E := ite_t E c_7
      exact hK0 _ _ _ _ _ E
    · have E := ite_f E c_7
      refine r_aload_n (i := 0) C dX12_findsValues_10 rfl rfl (by first | rfl | exact isR_rf _) ?_
      refine rm_ref (k := 36) C f_X12_108 dX12_findsValues_11 rfl rfl hM rfl ?_
      refine r_iload_n (i := 2) C dX12_findsValues_14 rfl rfl ?_
      refine r_aload_n (i := 0) C dX12_findsValues_15 rfl rfl (by first | rfl | exact isR_rf _) ?_
      refine r_iload_n (i := 2) C dX12_findsValues_16 rfl rfl ?_
      refine r_iload_n (i := 1) C dX12_findsValues_17 rfl rfl ?_
      obtain ⟨p2, q, E⟩ := bd_elim E
      refine r_callVs C v_X12_210 (z_isThere _ _ hM q) dX12_findsValues_18 hM.1 (ci := 10) (by decide) rfl rfl (As := [_, _]) rfl rfl rfl (by first | exact Nat.le_refl _ | exact Nat.le_of_ble_eq_true rfl | omega) (Nat.le_of_ble_eq_true rfl) (by first | exact Nat.le_refl _ | exact Nat.le_of_ble_eq_true rfl | omega) (by first | exact Nat.le_refl _ | exact Nat.le_of_ble_eq_true rfl | omega) ?_
      obtain ⟨g4, E⟩ := gd_elim E
      obtain ⟨g5, E⟩ := gd_elim E
      refine rm_zast (k := 36) C dX12_findsValues_21 hM rfl rfl g4 g5 ?_
      refine bnd_elim (P := fun (Z : MM) => wr X 0 0 22 [.ref m, .int x1, .int x2, u3, u4, u5] [] (pm m h Z)) E (fun S3 E => ?_)
      refine r_iinc1 (i := 2) C dX12_findsValues_22 rfl ?_
      refine r_goto (tgt := 2) C dX12_findsValues_25 (by decide) ?_
      exact ih _ _ _ _ _ E hK0
def m_findsValues_30 (K0 : MM → Option (MM)) (x1 : Int32) : Nat → Int32 → MM → Option (MM)
  | 0, _, _ => none
  | fu + 1, x2, S => if (4 : Int32) ≤ x2 then (K0 S) else (bd (m_tells S x1 ((10 : Int32) + x2)) fun p12 => (if ix x2 4 then bnd (u2 S 37 (tn x2) p12) fun S13 => (m_findsValues_30 K0 x1 fu (x2 + 1) S13) else none))
theorem z_findsValues_30 {X : Ctx} {m : Nat} {h : Hp} (C : Cx X yX12_findsValues cX12_findsValues 6 none [] 4 0 0) (hM : MW m h) {K0 : MM → Option (MM)} {x1 : Int32} {r : MM} (E0 : Ex X 0 0 (.inl (none, pm m h r))) : ∀ (fu : Nat) (x2 : Int32) (S : MM) (u3 u4 u5 : Value) , m_findsValues_30 K0 x1 fu x2 S = some r → (∀ (S2 : MM) (u2 u3 u4 u5 : Value) , K0 S2 = some r → wr X 0 0 56 [.ref m, .int x1, u2, u3, u4, u5] [] (pm m h S2)) → wr X 0 0 30 [.ref m, .int x1, .int x2, u3, u4, u5] [] (pm m h S) := by
  intro fu
  induction fu with
  | zero =>
    intro x2 S u3 u4 u5 E hK0
    rw [m_findsValues_30] at E
    cases E
  | succ fu ih =>
    intro x2 S u3 u4 u5 E hK0
    rw [m_findsValues_30] at E
    refine r_iload_n (i := 2) C dX12_findsValues_30 rfl rfl ?_
    refine r_iconst (v := 4) C dX12_findsValues_31 (by decide) ?_
    refine r_ic_ge (tgt := 56) C dX12_findsValues_32 (by decide) (fun c_32 => ?_) (fun c_32 => ?_)
    · have E := ite_t E c_32
      exact hK0 _ _ _ _ _ E
    · have E := ite_f E c_32
      refine r_aload_n (i := 0) C dX12_findsValues_35 rfl rfl (by first | rfl | exact isR_rf _) ?_
      refine rm_ref (k := 37) C f_X12_111 dX12_findsValues_36 rfl rfl hM rfl ?_
      refine r_iload_n (i := 2) C dX12_findsValues_39 rfl rfl ?_
      refine r_aload_n (i := 0) C dX12_findsValues_40 rfl rfl (by first | rfl | exact isR_rf _) ?_
      refine r_iload_n (i := 1) C dX12_findsValues_41 rfl rfl ?_
      refine r_bipush (v := 10) C dX12_findsValues_42 (by decide) ?_
      refine r_iload_n (i := 2) C dX12_findsValues_44 rfl rfl ?_
      refine r_iadd C dX12_findsValues_45 ?_
      obtain ⟨p12, q, E⟩ := bd_elim E
      refine r_callVs C v_X12_213 (z_tells _ _ hM q) dX12_findsValues_46 hM.1 (ci := 10) (by decide) rfl rfl (As := [_, _]) rfl rfl rfl (by first | exact Nat.le_refl _ | exact Nat.le_of_ble_eq_true rfl | omega) (Nat.le_of_ble_eq_true rfl) (by first | exact Nat.le_refl _ | exact Nat.le_of_ble_eq_true rfl | omega) (by first | exact Nat.le_refl _ | exact Nat.le_of_ble_eq_true rfl | omega) ?_
      obtain ⟨g14, E⟩ := gd_elim E
      refine rm_iast (k := 37) C dX12_findsValues_49 hM rfl rfl g14 ?_
      refine bnd_elim (P := fun (Z : MM) => wr X 0 0 50 [.ref m, .int x1, .int x2, u3, u4, u5] [] (pm m h Z)) E (fun S13 E => ?_)
      refine r_iinc1 (i := 2) C dX12_findsValues_50 rfl ?_
      refine r_goto (tgt := 30) C dX12_findsValues_53 (by decide) ?_
      exact ih _ _ _ _ _ E hK0
def m_findsValues_75 (K0 : Int32 → Option (MM)) (S : MM) (x3 : Int32) : Nat → Int32 → Int32 → Option (MM)
  | 0, _, _ => none
  | fu + 1, x4, x5 => if (4 : Int32) ≤ x5 then (K0 x4) else (if x4 = ((-1) : Int32) then (K0 x4) else (if x4 = x3 then (K0 x4) else (bd (m_needs S x4) fun p28 => (m_findsValues_75 K0 S x3 fu p28 (x5 + 1)))))
theorem z_findsValues_75 {X : Ctx} {m : Nat} {h : Hp} (C : Cx X yX12_findsValues cX12_findsValues 6 none [] 4 0 0) (hM : MW m h) {K0 : Int32 → Option (MM)} {S : MM} {x3 : Int32} {v1 v2 : Value} {r : MM} (E0 : Ex X 0 0 (.inl (none, pm m h r))) : ∀ (fu : Nat) (x4 x5 : Int32) , m_findsValues_75 K0 S x3 fu x4 x5 = some r → (∀ (y4 : Int32) (u5 : Value) , K0 y4 = some r → wr X 0 0 107 [.ref m, v1, v2, .int x3, .int y4, u5] [] (pm m h S)) → wr X 0 0 75 [.ref m, v1, v2, .int x3, .int x4, .int x5] [] (pm m h S) := by
  intro fu
  induction fu with
  | zero =>
    intro x4 x5 E hK0
    rw [m_findsValues_75] at E
    cases E
  | succ fu ih =>
    intro x4 x5 E hK0
    rw [m_findsValues_75] at E
    refine r_iload (i := 5) C dX12_findsValues_75 rfl ?_
    refine r_iconst (v := 4) C dX12_findsValues_77 (by decide) ?_
    refine r_ic_ge (tgt := 107) C dX12_findsValues_78 (by decide) (fun c_78 => ?_) (fun c_78 => ?_)
    · have E := ite_t E c_78
      exact hK0 _ _ E
    · have E := ite_f E c_78
      refine r_iload (i := 4) C dX12_findsValues_81 rfl ?_
      refine r_iconst (v := (-1)) C dX12_findsValues_83 (by decide) ?_
      refine r_ic_eq (tgt := 107) C dX12_findsValues_84 (by decide) (fun c_84 => ?_) (fun c_84 => ?_)
      · have E := ite_t E c_84
        exact hK0 _ _ E
      · have E := ite_f E c_84
        refine r_iload (i := 4) C dX12_findsValues_87 rfl ?_
        refine r_iload_n (i := 3) C dX12_findsValues_89 rfl rfl ?_
        refine r_ic_eq (tgt := 107) C dX12_findsValues_90 (by decide) (fun c_90 => ?_) (fun c_90 => ?_)
        · have E := ite_t E c_90
          exact hK0 _ _ E
        · have E := ite_f E c_90
          refine r_aload_n (i := 0) C dX12_findsValues_93 rfl rfl (by first | rfl | exact isR_rf _) ?_
          refine r_iload (i := 4) C dX12_findsValues_94 rfl ?_
          obtain ⟨p28, q, E⟩ := bd_elim E
          refine r_callVs C v_X12_217 (z_needs _ _ hM q) dX12_findsValues_96 hM.1 (ci := 10) (by decide) rfl rfl (As := [_]) rfl rfl rfl (by first | exact Nat.le_refl _ | exact Nat.le_of_ble_eq_true rfl | omega) (Nat.le_of_ble_eq_true rfl) (by first | exact Nat.le_refl _ | exact Nat.le_of_ble_eq_true rfl | omega) (by first | exact Nat.le_refl _ | exact Nat.le_of_ble_eq_true rfl | omega) ?_
          refine r_istore (i := 4) C dX12_findsValues_99 (Nat.le_of_ble_eq_true rfl) ?_
          refine r_iinc1 (i := 5) C dX12_findsValues_101 rfl ?_
          refine r_goto (tgt := 75) C dX12_findsValues_104 (by decide) ?_
          exact ih _ _ E hK0
def m_findsValues_60 (K0 : Int32 → MM → Option (MM)) (x1 : Int32) : Nat → Int32 → Int32 → MM → Option (MM)
  | 0, _, _, _ => none
  | fu + 1, x2, x3, S => if (4 : Int32) ≤ x3 then (K0 x2 S) else (bd (m_needs S x3) fun p21 => (m_findsValues_75 (fun p29 => if p29 = x3 then (if ix ((((14 : Int32) * x1) + (10 : Int32)) + x3) 336 then bnd (u2 S 23 (tn ((((14 : Int32) * x1) + (10 : Int32)) + x3)) ((-1) : Int32)) fun S32 => (bnd (u2 S32 24 (tn ((((14 : Int32) * x1) + (10 : Int32)) + x3)) ((-1) : Int32)) fun S34 => (bnd (x2 ||| ((1 : Int32) <<< (x3 &&& 31))) fun p35 => (m_findsValues_60 K0 x1 fu p35 (x3 + 1) S34))) else none) else (m_findsValues_60 K0 x1 fu x2 (x3 + 1) S)) S x3 1000 p21 (0 : Int32)))
theorem z_findsValues_60 {X : Ctx} {m : Nat} {h : Hp} (C : Cx X yX12_findsValues cX12_findsValues 6 none [] 4 0 0) (hM : MW m h) {K0 : Int32 → MM → Option (MM)} {x1 : Int32} {r : MM} (E0 : Ex X 0 0 (.inl (none, pm m h r))) : ∀ (fu : Nat) (x2 x3 : Int32) (S : MM) (u4 u5 : Value) , m_findsValues_60 K0 x1 fu x2 x3 S = some r → (∀ (y2 : Int32) (S2 : MM) (u3 u4 u5 : Value) , K0 y2 S2 = some r → wr X 0 0 155 [.ref m, .int x1, .int y2, u3, u4, u5] [] (pm m h S2)) → wr X 0 0 60 [.ref m, .int x1, .int x2, .int x3, u4, u5] [] (pm m h S) := by
  intro fu
  induction fu with
  | zero =>
    intro x2 x3 S u4 u5 E hK0
    rw [m_findsValues_60] at E
    cases E
  | succ fu ih =>
    intro x2 x3 S u4 u5 E hK0
    rw [m_findsValues_60] at E
    refine r_iload_n (i := 3) C dX12_findsValues_60 rfl rfl ?_
    refine r_iconst (v := 4) C dX12_findsValues_61 (by decide) ?_
    refine r_ic_ge (tgt := 155) C dX12_findsValues_62 (by decide) (fun c_62 => ?_) (fun c_62 => ?_)
    · have E := ite_t E c_62
      exact hK0 _ _ _ _ _ E
    · have E := ite_f E c_62
      refine r_aload_n (i := 0) C dX12_findsValues_65 rfl rfl (by first | rfl | exact isR_rf _) ?_
      refine r_iload_n (i := 3) C dX12_findsValues_66 rfl rfl ?_
      obtain ⟨p21, q, E⟩ := bd_elim E
      refine r_callVs C v_X12_217 (z_needs _ _ hM q) dX12_findsValues_67 hM.1 (ci := 10) (by decide) rfl rfl (As := [_]) rfl rfl rfl (by first | exact Nat.le_refl _ | exact Nat.le_of_ble_eq_true rfl | omega) (Nat.le_of_ble_eq_true rfl) (by first | exact Nat.le_refl _ | exact Nat.le_of_ble_eq_true rfl | omega) (by first | exact Nat.le_refl _ | exact Nat.le_of_ble_eq_true rfl | omega) ?_
      refine r_istore (i := 4) C dX12_findsValues_70 (Nat.le_of_ble_eq_true rfl) ?_
      refine r_iconst (v := 0) C dX12_findsValues_72 (by decide) ?_
      refine r_istore (i := 5) C dX12_findsValues_73 (Nat.le_of_ble_eq_true rfl) ?_
      refine z_findsValues_75 C hM E0 _ _ _ E (fun p29 w30 E => ?_)
      refine r_iload (i := 4) C dX12_findsValues_107 rfl ?_
      refine r_iload_n (i := 3) C dX12_findsValues_109 rfl rfl ?_
      refine r_ic_ne (tgt := 149) C dX12_findsValues_110 (by decide) (fun c_110 => ?_) (fun c_110 => ?_)
      · have E := ite_f E c_110
        refine r_iinc1 (i := 3) C dX12_findsValues_149 rfl ?_
        refine r_goto (tgt := 60) C dX12_findsValues_152 (by decide) ?_
        exact ih _ _ _ _ _ E hK0
      · have E := ite_t E c_110
        refine r_aload_n (i := 0) C dX12_findsValues_113 rfl rfl (by first | rfl | exact isR_rf _) ?_
        refine rm_ref (k := 23) C f_X12_75 dX12_findsValues_114 rfl rfl hM rfl ?_
        refine r_bipush (v := 14) C dX12_findsValues_117 (by decide) ?_
        refine r_iload_n (i := 1) C dX12_findsValues_119 rfl rfl ?_
        refine r_imul C dX12_findsValues_120 ?_
        refine r_bipush (v := 10) C dX12_findsValues_121 (by decide) ?_
        refine r_iadd C dX12_findsValues_123 ?_
        refine r_iload_n (i := 3) C dX12_findsValues_124 rfl rfl ?_
        refine r_iadd C dX12_findsValues_125 ?_
        refine r_iconst (v := (-1)) C dX12_findsValues_126 (by decide) ?_
        obtain ⟨g33, E⟩ := gd_elim E
        refine rm_iast (k := 23) C dX12_findsValues_127 hM rfl rfl g33 ?_
        refine bnd_elim (P := fun (Z : MM) => wr X 0 0 128 [.ref m, .int x1, .int x2, .int x3, .int p29, w30] [] (pm m h Z)) E (fun S32 E => ?_)
        refine r_aload_n (i := 0) C dX12_findsValues_128 rfl rfl (by first | rfl | exact isR_rf _) ?_
        refine rm_ref (k := 24) C f_X12_78 dX12_findsValues_129 rfl rfl hM rfl ?_
        refine r_bipush (v := 14) C dX12_findsValues_132 (by decide) ?_
        refine r_iload_n (i := 1) C dX12_findsValues_134 rfl rfl ?_
        refine r_imul C dX12_findsValues_135 ?_
        refine r_bipush (v := 10) C dX12_findsValues_136 (by decide) ?_
        refine r_iadd C dX12_findsValues_138 ?_
        refine r_iload_n (i := 3) C dX12_findsValues_139 rfl rfl ?_
        refine r_iadd C dX12_findsValues_140 ?_
        refine r_iconst (v := (-1)) C dX12_findsValues_141 (by decide) ?_
        refine rm_iast (k := 24) C dX12_findsValues_142 hM rfl rfl g33 ?_
        refine bnd_elim (P := fun (Z : MM) => wr X 0 0 143 [.ref m, .int x1, .int x2, .int x3, .int p29, w30] [] (pm m h Z)) E (fun S34 E => ?_)
        refine r_iload_n (i := 2) C dX12_findsValues_143 rfl rfl ?_
        refine r_iconst (v := 1) C dX12_findsValues_144 (by decide) ?_
        refine r_iload_n (i := 3) C dX12_findsValues_145 rfl rfl ?_
        refine r_ishl C dX12_findsValues_146 ?_
        refine r_ior C dX12_findsValues_147 ?_
        refine bnd_elim (P := fun (z : Int32) => wr X 0 0 148 [.ref m, .int x1, .int x2, .int x3, .int p29, w30] [.int z] (pm m h S34)) E (fun p35 E => ?_)
        refine r_istore_n (i := 2) C dX12_findsValues_148 rfl (Nat.le_of_ble_eq_true rfl) ?_
        refine r_iinc1 (i := 3) C dX12_findsValues_149 rfl ?_
        refine r_goto (tgt := 60) C dX12_findsValues_152 (by decide) ?_
        exact ih _ _ _ _ _ E hK0
def m_findsValues_165 (K0 : Int32 → MM → Option (MM)) (x1 : Int32) : Nat → Int32 → Int32 → MM → Option (MM)
  | 0, _, _, _ => none
  | fu + 1, x2, x4, S => if (4 : Int32) ≤ x4 then (K0 x2 S) else (bd (m_needs S x4) fun p43 => (if ((x2 >>> (x4 &&& 31)) &&& (1 : Int32)) = (0 : Int32) then (if p43 = ((-1) : Int32) then (if ix x4 4 then bd (m_takesValue S x1 ((10 : Int32) + x4) (S 37 (tn x4))) fun S51 => (if ix ((((14 : Int32) * x1) + (10 : Int32)) + x4) 336 then bnd (if (S51 23 (tn ((((14 : Int32) * x1) + (10 : Int32)) + x4))) = ((-1) : Int32) then ((-1) : Int32) else S51 24 (tn ((((14 : Int32) * x1) + (10 : Int32)) + x4))) fun p56 => bnd (u2 S51 24 (tn ((((14 : Int32) * x1) + (10 : Int32)) + x4)) p56) fun S57 => (bnd (x2 ||| ((1 : Int32) <<< (x4 &&& 31))) fun p58 => (m_findsValues_165 K0 x1 fu p58 (x4 + 1) S57)) else none) else none) else (if ((x2 >>> (p43 &&& 31)) &&& (1 : Int32)) = (1 : Int32) then (if ix x4 4 then bd (m_takesValue S x1 ((10 : Int32) + x4) (S 37 (tn x4))) fun S63 => (if ix ((((14 : Int32) * x1) + (10 : Int32)) + x4) 336 then bnd (if (S63 23 (tn ((((14 : Int32) * x1) + (10 : Int32)) + x4))) = ((-1) : Int32) then ((-1) : Int32) else S63 24 (tn ((((14 : Int32) * x1) + (10 : Int32)) + x4))) fun p68 => bnd (u2 S63 24 (tn ((((14 : Int32) * x1) + (10 : Int32)) + x4)) p68) fun S69 => (bnd (x2 ||| ((1 : Int32) <<< (x4 &&& 31))) fun p70 => (m_findsValues_165 K0 x1 fu p70 (x4 + 1) S69)) else none) else none) else (m_findsValues_165 K0 x1 fu x2 (x4 + 1) S))) else (m_findsValues_165 K0 x1 fu x2 (x4 + 1) S)))
theorem z_findsValues_165 {X : Ctx} {m : Nat} {h : Hp} (C : Cx X yX12_findsValues cX12_findsValues 6 none [] 4 0 0) (hM : MW m h) {K0 : Int32 → MM → Option (MM)} {x1 : Int32} {v3 : Value} {r : MM} (E0 : Ex X 0 0 (.inl (none, pm m h r))) : ∀ (fu : Nat) (x2 x4 : Int32) (S : MM) (u5 : Value) , m_findsValues_165 K0 x1 fu x2 x4 S = some r → (∀ (y2 : Int32) (S2 : MM) (u4 u5 : Value) , K0 y2 S2 = some r → wr X 0 0 287 [.ref m, .int x1, .int y2, v3, u4, u5] [] (pm m h S2)) → wr X 0 0 165 [.ref m, .int x1, .int x2, v3, .int x4, u5] [] (pm m h S) := by
  intro fu
  induction fu with
  | zero =>
    intro x2 x4 S u5 E hK0
    rw [m_findsValues_165] at E
    cases E
  | succ fu ih =>
    intro x2 x4 S u5 E hK0
    rw [m_findsValues_165] at E
    refine r_iload (i := 4) C dX12_findsValues_165 rfl ?_
    refine r_iconst (v := 4) C dX12_findsValues_167 (by decide) ?_
    refine r_ic_ge (tgt := 287) C dX12_findsValues_168 (by decide) (fun c_168 => ?_) (fun c_168 => ?_)
    · have E := ite_t E c_168
      exact hK0 _ _ _ _ E
    · have E := ite_f E c_168
      refine r_aload_n (i := 0) C dX12_findsValues_171 rfl rfl (by first | rfl | exact isR_rf _) ?_
      refine r_iload (i := 4) C dX12_findsValues_172 rfl ?_
      obtain ⟨p43, q, E⟩ := bd_elim E
      refine r_callVs C v_X12_217 (z_needs _ _ hM q) dX12_findsValues_174 hM.1 (ci := 10) (by decide) rfl rfl (As := [_]) rfl rfl rfl (by first | exact Nat.le_refl _ | exact Nat.le_of_ble_eq_true rfl | omega) (Nat.le_of_ble_eq_true rfl) (by first | exact Nat.le_refl _ | exact Nat.le_of_ble_eq_true rfl | omega) (by first | exact Nat.le_refl _ | exact Nat.le_of_ble_eq_true rfl | omega) ?_
      refine r_istore (i := 5) C dX12_findsValues_177 (Nat.le_of_ble_eq_true rfl) ?_
      refine r_iload_n (i := 2) C dX12_findsValues_179 rfl rfl ?_
      refine r_iload (i := 4) C dX12_findsValues_180 rfl ?_
      refine r_ishr C dX12_findsValues_182 ?_
      refine r_iconst (v := 1) C dX12_findsValues_183 (by decide) ?_
      refine r_iand C dX12_findsValues_184 ?_
      refine r_if_ne (tgt := 281) C dX12_findsValues_185 (by decide) (fun c_185 => ?_) (fun c_185 => ?_)
      · have E := ite_f E c_185
        refine r_iinc1 (i := 4) C dX12_findsValues_281 rfl ?_
        refine r_goto (tgt := 165) C dX12_findsValues_284 (by decide) ?_
        exact ih _ _ _ _ E hK0
      · have E := ite_t E c_185
        refine r_iload (i := 5) C dX12_findsValues_188 rfl ?_
        refine r_iconst (v := (-1)) C dX12_findsValues_190 (by decide) ?_
        refine r_ic_eq (tgt := 204) C dX12_findsValues_191 (by decide) (fun c_191 => ?_) (fun c_191 => ?_)
        · have E := ite_t E c_191
          refine r_aload_n (i := 0) C dX12_findsValues_204 rfl rfl (by first | rfl | exact isR_rf _) ?_
          refine r_iload_n (i := 1) C dX12_findsValues_205 rfl rfl ?_
          refine r_bipush (v := 10) C dX12_findsValues_206 (by decide) ?_
          refine r_iload (i := 4) C dX12_findsValues_208 rfl ?_
          refine r_iadd C dX12_findsValues_210 ?_
          refine r_aload_n (i := 0) C dX12_findsValues_211 rfl rfl (by first | rfl | exact isR_rf _) ?_
          refine rm_ref (k := 37) C f_X12_111 dX12_findsValues_212 rfl rfl hM rfl ?_
          refine r_iload (i := 4) C dX12_findsValues_215 rfl ?_
          obtain ⟨g50, E⟩ := gd_elim E
          refine rm_iald (k := 37) C dX12_findsValues_217 hM rfl rfl g50 ?_
          obtain ⟨S51, q, E⟩ := bd_elim E
          refine r_callVn C v_X12_220 (z_takesValue _ _ hM q) dX12_findsValues_218 hM.1 (ci := 10) (by decide) rfl rfl (As := [_, _, _]) rfl rfl rfl (by first | exact Nat.le_refl _ | exact Nat.le_of_ble_eq_true rfl | omega) (Nat.le_of_ble_eq_true rfl) (by first | exact Nat.le_refl _ | exact Nat.le_of_ble_eq_true rfl | omega) (by first | exact Nat.le_refl _ | exact Nat.le_of_ble_eq_true rfl | omega) ?_
          refine r_aload_n (i := 0) C dX12_findsValues_221 rfl rfl (by first | rfl | exact isR_rf _) ?_
          refine rm_ref (k := 24) C f_X12_78 dX12_findsValues_222 rfl rfl hM rfl ?_
          refine r_bipush (v := 14) C dX12_findsValues_225 (by decide) ?_
          refine r_iload_n (i := 1) C dX12_findsValues_227 rfl rfl ?_
          refine r_imul C dX12_findsValues_228 ?_
          refine r_bipush (v := 10) C dX12_findsValues_229 (by decide) ?_
          refine r_iadd C dX12_findsValues_231 ?_
          refine r_iload (i := 4) C dX12_findsValues_232 rfl ?_
          refine r_iadd C dX12_findsValues_234 ?_
          refine r_aload_n (i := 0) C dX12_findsValues_235 rfl rfl (by first | rfl | exact isR_rf _) ?_
          refine rm_ref (k := 23) C f_X12_75 dX12_findsValues_236 rfl rfl hM rfl ?_
          refine r_bipush (v := 14) C dX12_findsValues_239 (by decide) ?_
          refine r_iload_n (i := 1) C dX12_findsValues_241 rfl rfl ?_
          refine r_imul C dX12_findsValues_242 ?_
          refine r_bipush (v := 10) C dX12_findsValues_243 (by decide) ?_
          refine r_iadd C dX12_findsValues_245 ?_
          refine r_iload (i := 4) C dX12_findsValues_246 rfl ?_
          refine r_iadd C dX12_findsValues_248 ?_
          obtain ⟨g53, E⟩ := gd_elim E
          refine rm_iald (k := 23) C dX12_findsValues_249 hM rfl rfl g53 ?_
          refine r_iconst (v := (-1)) C dX12_findsValues_250 (by decide) ?_
          have J55 : ∀ (u : Unit), wr X 0 0 273 [.ref m, .int x1, .int x2, v3, .int x4, .int p43] [.int (if (S51 23 (tn ((((14 : Int32) * x1) + (10 : Int32)) + x4))) = ((-1) : Int32) then ((-1) : Int32) else S51 24 (tn ((((14 : Int32) * x1) + (10 : Int32)) + x4))), .int ((((14 : Int32) * x1) + (10 : Int32)) + x4), .ref (m + mad 24)] (pm m h S51) := by
            intro u
            refine bnd_elim (P := fun (z : Int32) => wr X 0 0 273 [.ref m, .int x1, .int x2, v3, .int x4, .int p43] [.int z, .int ((((14 : Int32) * x1) + (10 : Int32)) + x4), .ref (m + mad 24)] (pm m h S51)) E (fun p56 E => ?_)
            refine rm_iast (k := 24) C dX12_findsValues_273 hM rfl rfl g53 ?_
            refine bnd_elim (P := fun (Z : MM) => wr X 0 0 274 [.ref m, .int x1, .int x2, v3, .int x4, .int p43] [] (pm m h Z)) E (fun S57 E => ?_)
            refine r_iload_n (i := 2) C dX12_findsValues_274 rfl rfl ?_
            refine r_iconst (v := 1) C dX12_findsValues_275 (by decide) ?_
            refine r_iload (i := 4) C dX12_findsValues_276 rfl ?_
            refine r_ishl C dX12_findsValues_278 ?_
            refine r_ior C dX12_findsValues_279 ?_
            refine bnd_elim (P := fun (z : Int32) => wr X 0 0 280 [.ref m, .int x1, .int x2, v3, .int x4, .int p43] [.int z] (pm m h S57)) E (fun p58 E => ?_)
            refine r_istore_n (i := 2) C dX12_findsValues_280 rfl (Nat.le_of_ble_eq_true rfl) ?_
            refine r_iinc1 (i := 4) C dX12_findsValues_281 rfl ?_
            refine r_goto (tgt := 165) C dX12_findsValues_284 (by decide) ?_
            exact ih _ _ _ _ E hK0
          refine r_ic_ne (tgt := 258) C dX12_findsValues_251 (by decide) (fun c_251_k54 => ?_) (fun c_251_k54 => ?_)
          · refine r_aload_n (i := 0) C dX12_findsValues_258 rfl rfl (by first | rfl | exact isR_rf _) ?_
            refine rm_ref (k := 24) C f_X12_78 dX12_findsValues_259 rfl rfl hM rfl ?_
            refine r_bipush (v := 14) C dX12_findsValues_262 (by decide) ?_
            refine r_iload_n (i := 1) C dX12_findsValues_264 rfl rfl ?_
            refine r_imul C dX12_findsValues_265 ?_
            refine r_bipush (v := 10) C dX12_findsValues_266 (by decide) ?_
            refine r_iadd C dX12_findsValues_268 ?_
            refine r_iload (i := 4) C dX12_findsValues_269 rfl ?_
            refine r_iadd C dX12_findsValues_271 ?_
            refine rm_iald (k := 24) C dX12_findsValues_272 hM rfl rfl g53 ?_
            first | exact (J55  ()) | (simp only [if_neg c_251_k54] at J55; exact (J55  ()))
          · refine r_iconst (v := (-1)) C dX12_findsValues_254 (by decide) ?_
            refine r_goto (tgt := 273) C dX12_findsValues_255 (by decide) ?_
            first | exact (J55  ()) | (simp only [if_pos c_251_k54] at J55; exact (J55  ()))
        · have E := ite_f E c_191
          refine r_iload_n (i := 2) C dX12_findsValues_194 rfl rfl ?_
          refine r_iload (i := 5) C dX12_findsValues_195 rfl ?_
          refine r_ishr C dX12_findsValues_197 ?_
          refine r_iconst (v := 1) C dX12_findsValues_198 (by decide) ?_
          refine r_iand C dX12_findsValues_199 ?_
          refine r_iconst (v := 1) C dX12_findsValues_200 (by decide) ?_
          refine r_ic_ne (tgt := 281) C dX12_findsValues_201 (by decide) (fun c_201 => ?_) (fun c_201 => ?_)
          · have E := ite_f E c_201
            refine r_iinc1 (i := 4) C dX12_findsValues_281 rfl ?_
            refine r_goto (tgt := 165) C dX12_findsValues_284 (by decide) ?_
            exact ih _ _ _ _ E hK0
          · have E := ite_t E c_201
            refine r_aload_n (i := 0) C dX12_findsValues_204 rfl rfl (by first | rfl | exact isR_rf _) ?_
            refine r_iload_n (i := 1) C dX12_findsValues_205 rfl rfl ?_
            refine r_bipush (v := 10) C dX12_findsValues_206 (by decide) ?_
            refine r_iload (i := 4) C dX12_findsValues_208 rfl ?_
            refine r_iadd C dX12_findsValues_210 ?_
            refine r_aload_n (i := 0) C dX12_findsValues_211 rfl rfl (by first | rfl | exact isR_rf _) ?_
            refine rm_ref (k := 37) C f_X12_111 dX12_findsValues_212 rfl rfl hM rfl ?_
            refine r_iload (i := 4) C dX12_findsValues_215 rfl ?_
            obtain ⟨g62, E⟩ := gd_elim E
            refine rm_iald (k := 37) C dX12_findsValues_217 hM rfl rfl g62 ?_
            obtain ⟨S63, q, E⟩ := bd_elim E
            refine r_callVn C v_X12_220 (z_takesValue _ _ hM q) dX12_findsValues_218 hM.1 (ci := 10) (by decide) rfl rfl (As := [_, _, _]) rfl rfl rfl (by first | exact Nat.le_refl _ | exact Nat.le_of_ble_eq_true rfl | omega) (Nat.le_of_ble_eq_true rfl) (by first | exact Nat.le_refl _ | exact Nat.le_of_ble_eq_true rfl | omega) (by first | exact Nat.le_refl _ | exact Nat.le_of_ble_eq_true rfl | omega) ?_
            refine r_aload_n (i := 0) C dX12_findsValues_221 rfl rfl (by first | rfl | exact isR_rf _) ?_
            refine rm_ref (k := 24) C f_X12_78 dX12_findsValues_222 rfl rfl hM rfl ?_
            refine r_bipush (v := 14) C dX12_findsValues_225 (by decide) ?_
            refine r_iload_n (i := 1) C dX12_findsValues_227 rfl rfl ?_
            refine r_imul C dX12_findsValues_228 ?_
            refine r_bipush (v := 10) C dX12_findsValues_229 (by decide) ?_
            refine r_iadd C dX12_findsValues_231 ?_
            refine r_iload (i := 4) C dX12_findsValues_232 rfl ?_
            refine r_iadd C dX12_findsValues_234 ?_
            refine r_aload_n (i := 0) C dX12_findsValues_235 rfl rfl (by first | rfl | exact isR_rf _) ?_
            refine rm_ref (k := 23) C f_X12_75 dX12_findsValues_236 rfl rfl hM rfl ?_
            refine r_bipush (v := 14) C dX12_findsValues_239 (by decide) ?_
            refine r_iload_n (i := 1) C dX12_findsValues_241 rfl rfl ?_
            refine r_imul C dX12_findsValues_242 ?_
            refine r_bipush (v := 10) C dX12_findsValues_243 (by decide) ?_
            refine r_iadd C dX12_findsValues_245 ?_
            refine r_iload (i := 4) C dX12_findsValues_246 rfl ?_
            refine r_iadd C dX12_findsValues_248 ?_
            obtain ⟨g65, E⟩ := gd_elim E
            refine rm_iald (k := 23) C dX12_findsValues_249 hM rfl rfl g65 ?_
            refine r_iconst (v := (-1)) C dX12_findsValues_250 (by decide) ?_
            have J67 : ∀ (u : Unit), wr X 0 0 273 [.ref m, .int x1, .int x2, v3, .int x4, .int p43] [.int (if (S63 23 (tn ((((14 : Int32) * x1) + (10 : Int32)) + x4))) = ((-1) : Int32) then ((-1) : Int32) else S63 24 (tn ((((14 : Int32) * x1) + (10 : Int32)) + x4))), .int ((((14 : Int32) * x1) + (10 : Int32)) + x4), .ref (m + mad 24)] (pm m h S63) := by
              intro u
              refine bnd_elim (P := fun (z : Int32) => wr X 0 0 273 [.ref m, .int x1, .int x2, v3, .int x4, .int p43] [.int z, .int ((((14 : Int32) * x1) + (10 : Int32)) + x4), .ref (m + mad 24)] (pm m h S63)) E (fun p68 E => ?_)
              refine rm_iast (k := 24) C dX12_findsValues_273 hM rfl rfl g65 ?_
              refine bnd_elim (P := fun (Z : MM) => wr X 0 0 274 [.ref m, .int x1, .int x2, v3, .int x4, .int p43] [] (pm m h Z)) E (fun S69 E => ?_)
              refine r_iload_n (i := 2) C dX12_findsValues_274 rfl rfl ?_
              refine r_iconst (v := 1) C dX12_findsValues_275 (by decide) ?_
              refine r_iload (i := 4) C dX12_findsValues_276 rfl ?_
              refine r_ishl C dX12_findsValues_278 ?_
              refine r_ior C dX12_findsValues_279 ?_
              refine bnd_elim (P := fun (z : Int32) => wr X 0 0 280 [.ref m, .int x1, .int x2, v3, .int x4, .int p43] [.int z] (pm m h S69)) E (fun p70 E => ?_)
              refine r_istore_n (i := 2) C dX12_findsValues_280 rfl (Nat.le_of_ble_eq_true rfl) ?_
              refine r_iinc1 (i := 4) C dX12_findsValues_281 rfl ?_
              refine r_goto (tgt := 165) C dX12_findsValues_284 (by decide) ?_
              exact ih _ _ _ _ E hK0
            refine r_ic_ne (tgt := 258) C dX12_findsValues_251 (by decide) (fun c_251_k66 => ?_) (fun c_251_k66 => ?_)
            · refine r_aload_n (i := 0) C dX12_findsValues_258 rfl rfl (by first | rfl | exact isR_rf _) ?_
              refine rm_ref (k := 24) C f_X12_78 dX12_findsValues_259 rfl rfl hM rfl ?_
              refine r_bipush (v := 14) C dX12_findsValues_262 (by decide) ?_
              refine r_iload_n (i := 1) C dX12_findsValues_264 rfl rfl ?_
              refine r_imul C dX12_findsValues_265 ?_
              refine r_bipush (v := 10) C dX12_findsValues_266 (by decide) ?_
              refine r_iadd C dX12_findsValues_268 ?_
              refine r_iload (i := 4) C dX12_findsValues_269 rfl ?_
              refine r_iadd C dX12_findsValues_271 ?_
              refine rm_iald (k := 24) C dX12_findsValues_272 hM rfl rfl g65 ?_
              first | exact (J67  ()) | (simp only [if_neg c_251_k66] at J67; exact (J67  ()))
            · refine r_iconst (v := (-1)) C dX12_findsValues_254 (by decide) ?_
              refine r_goto (tgt := 273) C dX12_findsValues_255 (by decide) ?_
              first | exact (J67  ()) | (simp only [if_pos c_251_k66] at J67; exact (J67  ()))
def m_findsValues_157 (K0 : MM → Option (MM)) (x1 : Int32) : Nat → Int32 → Int32 → MM → Option (MM)
  | 0, _, _, _ => none
  | fu + 1, x2, x3, S => if (4 : Int32) ≤ x3 then (K0 S) else (m_findsValues_165 (fun p71 S74 => m_findsValues_157 K0 x1 fu p71 (x3 + 1) S74) x1 1000 x2 (0 : Int32) S)
theorem z_findsValues_157 {X : Ctx} {m : Nat} {h : Hp} (C : Cx X yX12_findsValues cX12_findsValues 6 none [] 4 0 0) (hM : MW m h) {K0 : MM → Option (MM)} {x1 : Int32} {r : MM} (E0 : Ex X 0 0 (.inl (none, pm m h r))) : ∀ (fu : Nat) (x2 x3 : Int32) (S : MM) (u4 u5 : Value) , m_findsValues_157 K0 x1 fu x2 x3 S = some r → (∀ (S2 : MM) (u2 u3 u4 u5 : Value) , K0 S2 = some r → wr X 0 0 293 [.ref m, .int x1, u2, u3, u4, u5] [] (pm m h S2)) → wr X 0 0 157 [.ref m, .int x1, .int x2, .int x3, u4, u5] [] (pm m h S) := by
  intro fu
  induction fu with
  | zero =>
    intro x2 x3 S u4 u5 E hK0
    rw [m_findsValues_157] at E
    cases E
  | succ fu ih =>
    intro x2 x3 S u4 u5 E hK0
    rw [m_findsValues_157] at E
    refine r_iload_n (i := 3) C dX12_findsValues_157 rfl rfl ?_
    refine r_iconst (v := 4) C dX12_findsValues_158 (by decide) ?_
    refine r_ic_ge (tgt := 293) C dX12_findsValues_159 (by decide) (fun c_159 => ?_) (fun c_159 => ?_)
    · have E := ite_t E c_159
      exact hK0 _ _ _ _ _ E
    · have E := ite_f E c_159
      refine r_iconst (v := 0) C dX12_findsValues_162 (by decide) ?_
      refine r_istore (i := 4) C dX12_findsValues_163 (Nat.le_of_ble_eq_true rfl) ?_
      refine z_findsValues_165 C hM E0 _ _ _ _ _ E (fun p71 S74 w72 w73 E => ?_)
      refine r_iinc1 (i := 3) C dX12_findsValues_287 rfl ?_
      refine r_goto (tgt := 157) C dX12_findsValues_290 (by decide) ?_
      exact ih _ _ _ _ _ E hK0
def m_findsValues_295 (x1 : Int32) : Nat → Int32 → MM → Option (MM)
  | 0, _, _ => none
  | fu + 1, x3, S => if (10 : Int32) ≤ x3 then (some S) else (bd (m_tells S x1 x3) fun p81 => (bd (m_takesValue S x1 x3 p81) fun S82 => (m_findsValues_295 x1 fu (x3 + 1) S82)))
theorem z_findsValues_295 {X : Ctx} {m : Nat} {h : Hp} (C : Cx X yX12_findsValues cX12_findsValues 6 none [] 4 0 0) (hM : MW m h) {x1 : Int32} {r : MM} (E0 : Ex X 0 0 (.inl (none, pm m h r))) : ∀ (fu : Nat) (x3 : Int32) (S : MM) (u2 u4 u5 : Value) , m_findsValues_295 x1 fu x3 S = some r → wr X 0 0 295 [.ref m, .int x1, u2, .int x3, u4, u5] [] (pm m h S) := by
  intro fu
  induction fu with
  | zero =>
    intro x3 S u2 u4 u5 E 
    rw [m_findsValues_295] at E
    cases E
  | succ fu ih =>
    intro x3 S u2 u4 u5 E 
    rw [m_findsValues_295] at E
    refine r_iload_n (i := 3) C dX12_findsValues_295 rfl rfl ?_
    refine r_bipush (v := 10) C dX12_findsValues_296 (by decide) ?_
    refine r_ic_ge (tgt := 319) C dX12_findsValues_298 (by decide) (fun c_298 => ?_) (fun c_298 => ?_)
    · have E := ite_t E c_298
      obtain rfl := Option.some.inj E
      exact r_vret C E0 dX12_findsValues_319 rfl (Nat.le_refl _) (Nat.le_refl _)
    · have E := ite_f E c_298
      refine r_aload_n (i := 0) C dX12_findsValues_301 rfl rfl (by first | rfl | exact isR_rf _) ?_
      refine r_iload_n (i := 1) C dX12_findsValues_302 rfl rfl ?_
      refine r_iload_n (i := 3) C dX12_findsValues_303 rfl rfl ?_
      refine r_aload_n (i := 0) C dX12_findsValues_304 rfl rfl (by first | rfl | exact isR_rf _) ?_
      refine r_iload_n (i := 1) C dX12_findsValues_305 rfl rfl ?_
      refine r_iload_n (i := 3) C dX12_findsValues_306 rfl rfl ?_
      obtain ⟨p81, q, E⟩ := bd_elim E
      refine r_callVs C v_X12_213 (z_tells _ _ hM q) dX12_findsValues_307 hM.1 (ci := 10) (by decide) rfl rfl (As := [_, _]) rfl rfl rfl (by first | exact Nat.le_refl _ | exact Nat.le_of_ble_eq_true rfl | omega) (Nat.le_of_ble_eq_true rfl) (by first | exact Nat.le_refl _ | exact Nat.le_of_ble_eq_true rfl | omega) (by first | exact Nat.le_refl _ | exact Nat.le_of_ble_eq_true rfl | omega) ?_
      obtain ⟨S82, q, E⟩ := bd_elim E
      refine r_callVn C v_X12_220 (z_takesValue _ _ hM q) dX12_findsValues_310 hM.1 (ci := 10) (by decide) rfl rfl (As := [_, _, _]) rfl rfl rfl (by first | exact Nat.le_refl _ | exact Nat.le_of_ble_eq_true rfl | omega) (Nat.le_of_ble_eq_true rfl) (by first | exact Nat.le_refl _ | exact Nat.le_of_ble_eq_true rfl | omega) (by first | exact Nat.le_refl _ | exact Nat.le_of_ble_eq_true rfl | omega) ?_
      refine r_iinc1 (i := 3) C dX12_findsValues_313 rfl ?_
      refine r_goto (tgt := 295) C dX12_findsValues_316 (by decide) ?_
      exact ih _ _ _ _ _ E
def m_findsValues (S : MM) (a0 : Int32) : Option (MM) := m_findsValues_2 (fun S10 => m_findsValues_30 (fun S19 => m_findsValues_60 (fun p36 S40 => m_findsValues_157 (fun S79 => m_findsValues_295 a0 1000 (0 : Int32) S79) a0 1000 p36 (0 : Int32) S40) a0 1000 (0 : Int32) (0 : Int32) S19) a0 1000 (0 : Int32) S10) a0 1000 (0 : Int32) S
theorem z_findsValues (l : Launch) (G : Gl) {m : Nat} {h : Hp} (hM : MW m h) {S : MM} {a0 : Int32} {r : MM} (E : m_findsValues S a0 = some r) : MRw l G yX12_findsValues (.code yX12_findsValues cX12_findsValues 6 none) 4 0 0 [.ref m, .int a0] (pm m h S) (.inl (none, pm m h r)) := by
  refine mr_of (by decide +kernel) (Nat.le_of_ble_eq_true rfl) (ct2 rfl rfl) (fun X hG hl C E0 => ?_)
  subst hG hl
  rw [m_findsValues] at E
  refine r_iconst (v := 0) C dX12_findsValues_0 (by decide) ?_
  refine r_istore_n (i := 2) C dX12_findsValues_1 rfl (Nat.le_of_ble_eq_true rfl) ?_
  refine z_findsValues_2 C hM E0 _ _ _ _ _ _ E (fun S10 w6 w7 w8 w9 E => ?_)
  refine r_iconst (v := 0) C dX12_findsValues_28 (by decide) ?_
  refine r_istore_n (i := 2) C dX12_findsValues_29 rfl (Nat.le_of_ble_eq_true rfl) ?_
  refine z_findsValues_30 C hM E0 _ _ _ _ _ _ E (fun S19 w15 w16 w17 w18 E => ?_)
  refine r_iconst (v := 0) C dX12_findsValues_56 (by decide) ?_
  refine r_istore_n (i := 2) C dX12_findsValues_57 rfl (Nat.le_of_ble_eq_true rfl) ?_
  refine r_iconst (v := 0) C dX12_findsValues_58 (by decide) ?_
  refine r_istore_n (i := 3) C dX12_findsValues_59 rfl (Nat.le_of_ble_eq_true rfl) ?_
  refine z_findsValues_60 C hM E0 _ _ _ _ _ _ E (fun p36 S40 w37 w38 w39 E => ?_)
  refine r_iconst (v := 0) C dX12_findsValues_155 (by decide) ?_
  refine r_istore_n (i := 3) C dX12_findsValues_156 rfl (Nat.le_of_ble_eq_true rfl) ?_
  refine z_findsValues_157 C hM E0 _ _ _ _ _ _ E (fun S79 w75 w76 w77 w78 E => ?_)
  refine r_iconst (v := 0) C dX12_findsValues_293 (by decide) ?_
  refine r_istore_n (i := 3) C dX12_findsValues_294 rfl (Nat.le_of_ble_eq_true rfl) ?_
  refine z_findsValues_295 C hM E0 _ _ _ _ _ _ E

def m_of (S : MM) (a0 : Int32) (a1 : Int32) : Int32 := S 23 (tn (((14 : Int32) * a0) + a1))
abbrev m_of_g (S : MM) (a0 : Int32) (a1 : Int32) : Prop := ix (((14 : Int32) * a0) + a1) 336
theorem z_of (l : Launch) (G : Gl) {m : Nat} {h : Hp} (hM : MW m h) {S : MM} {a0 a1 : Int32} (g : m_of_g S a0 a1) : MRw l G yX12_of (.code yX12_of cX12_of 3 (Option.some Jvm.ClassFile.FieldType.int)) 0 0 0 [.ref m, .int a0, .int a1] (pm m h S) (.inl (some (.int (m_of S a0 a1)), (pm m h S))) := by
  refine mr_of (by decide +kernel) (Nat.le_of_ble_eq_true rfl) (ct3 rfl rfl rfl) (fun X hG hl C E0 => ?_)
  subst hG hl
  unfold m_of_g at g
  rw [m_of] at E0
  refine r_aload_n (i := 0) C dX12_of_0 rfl rfl (by first | rfl | exact isR_rf _) ?_
  refine rm_ref (k := 23) C f_X12_75 dX12_of_1 rfl rfl hM rfl ?_
  refine r_bipush (v := 14) C dX12_of_4 (by decide) ?_
  refine r_iload_n (i := 1) C dX12_of_6 rfl rfl ?_
  refine r_imul C dX12_of_7 ?_
  refine r_iload_n (i := 2) C dX12_of_8 rfl rfl ?_
  refine r_iadd C dX12_of_9 ?_
  refine rm_iald (k := 23) C dX12_of_10 hM rfl rfl g ?_
  exact r_iret C E0 dX12_of_11 rfl rfl (Nat.le_refl _) (Nat.le_refl _)

def m_capped (S : MM) (a0 : Int32) (a1 : Int32) : Int32 := if (m_of S a0 (2 : Int32)) = ((-2) : Int32) then a1 else if a1 ≤ (m_of S a0 (2 : Int32)) then a1 else m_of S a0 (2 : Int32)
abbrev m_capped_g (S : MM) (a0 : Int32) (a1 : Int32) : Prop := m_of_g S a0 (2 : Int32)
theorem z_capped (l : Launch) (G : Gl) {m : Nat} {h : Hp} (hM : MW m h) {S : MM} {a0 a1 : Int32} (g : m_capped_g S a0 a1) : MRw l G yX12_capped (.code yX12_capped cX12_capped 3 (Option.some Jvm.ClassFile.FieldType.int)) 1 0 0 [.ref m, .int a0, .int a1] (pm m h S) (.inl (some (.int (m_capped S a0 a1)), (pm m h S))) := by
  refine mr_of (by decide +kernel) (Nat.le_of_ble_eq_true rfl) (ct3 rfl rfl rfl) (fun X hG hl C E0 => ?_)
  subst hG hl
  unfold m_capped_g at g
  rw [m_capped] at E0
  refine r_aload_n (i := 0) C dX12_capped_0 rfl rfl (by first | rfl | exact isR_rf _) ?_
  refine r_iload_n (i := 1) C dX12_capped_1 rfl rfl ?_
  refine r_iconst (v := 2) C dX12_capped_2 (by decide) ?_
  refine r_callVs C v_X12_223 (z_of _ _ hM g) dX12_capped_3 hM.1 (ci := 10) (by decide) rfl rfl (As := [_, _]) rfl rfl rfl (by first | exact Nat.le_refl _ | exact Nat.le_of_ble_eq_true rfl | omega) (Nat.le_of_ble_eq_true rfl) (by first | exact Nat.le_refl _ | exact Nat.le_of_ble_eq_true rfl | omega) (by first | exact Nat.le_refl _ | exact Nat.le_of_ble_eq_true rfl | omega) ?_
  refine r_bipush (v := (-2)) C dX12_capped_6 (by decide) ?_
  have J4 : ∀ (u : Unit), wr X 0 0 31 [.ref m, .int a0, .int a1] [.int (if (m_of S a0 (2 : Int32)) = ((-2) : Int32) then a1 else if a1 ≤ (m_of S a0 (2 : Int32)) then a1 else m_of S a0 (2 : Int32))] (pm m h S) := by
    intro u
    exact r_iret C E0 dX12_capped_31 rfl rfl (Nat.le_refl _) (Nat.le_refl _)
  refine r_ic_eq (tgt := 30) C dX12_capped_8 (by decide) (fun c_8_k2 => ?_) (fun c_8_k2 => ?_)
  · refine r_iload_n (i := 2) C dX12_capped_30 rfl rfl ?_
    first | exact (J4  ()) | (simp only [if_pos c_8_k2] at J4; exact (J4  ()))
  · refine r_aload_n (i := 0) C dX12_capped_11 rfl rfl (by first | rfl | exact isR_rf _) ?_
    refine r_iload_n (i := 1) C dX12_capped_12 rfl rfl ?_
    refine r_iconst (v := 2) C dX12_capped_13 (by decide) ?_
    refine r_callVs C v_X12_223 (z_of _ _ hM g) dX12_capped_14 hM.1 (ci := 10) (by decide) rfl rfl (As := [_, _]) rfl rfl rfl (by first | exact Nat.le_refl _ | exact Nat.le_of_ble_eq_true rfl | omega) (Nat.le_of_ble_eq_true rfl) (by first | exact Nat.le_refl _ | exact Nat.le_of_ble_eq_true rfl | omega) (by first | exact Nat.le_refl _ | exact Nat.le_of_ble_eq_true rfl | omega) ?_
    refine r_iload_n (i := 2) C dX12_capped_17 rfl rfl ?_
    refine r_ic_ge (tgt := 30) C dX12_capped_18 (by decide) (fun c_18_k3 => ?_) (fun c_18_k3 => ?_)
    · refine r_iload_n (i := 2) C dX12_capped_30 rfl rfl ?_
      first | exact (J4  ()) | (simp only [if_neg c_8_k2, if_pos c_18_k3] at J4; exact (J4  ()))
    · refine r_aload_n (i := 0) C dX12_capped_21 rfl rfl (by first | rfl | exact isR_rf _) ?_
      refine r_iload_n (i := 1) C dX12_capped_22 rfl rfl ?_
      refine r_iconst (v := 2) C dX12_capped_23 (by decide) ?_
      refine r_callVs C v_X12_223 (z_of _ _ hM g) dX12_capped_24 hM.1 (ci := 10) (by decide) rfl rfl (As := [_, _]) rfl rfl rfl (by first | exact Nat.le_refl _ | exact Nat.le_of_ble_eq_true rfl | omega) (Nat.le_of_ble_eq_true rfl) (by first | exact Nat.le_refl _ | exact Nat.le_of_ble_eq_true rfl | omega) (by first | exact Nat.le_refl _ | exact Nat.le_of_ble_eq_true rfl | omega) ?_
      refine r_goto (tgt := 31) C dX12_capped_27 (by decide) ?_
      first | exact (J4  ()) | (simp only [if_neg c_8_k2, if_neg c_18_k3] at J4; exact (J4  ()))

def m_widest_9 (K0 : Int32 → Option (Int32)) (S : MM) : Nat → Int32 → Int32 → Option (Int32)
  | 0, _, _ => none
  | fu + 1, x2, x3 => if x3 ≤ (0 : Int32) then (K0 x2) else (bnd (if (x3 - x3 / (10 : Int32) * (10 : Int32)) ≤ x2 then x2 else x3 - x3 / (10 : Int32) * (10 : Int32)) fun p10 => (bnd (x3 / (10 : Int32)) fun p11 => (m_widest_9 K0 S fu p10 p11)))
theorem z_widest_9 {X : Ctx} {m : Nat} {h : Hp} (C : Cx X yX12_widest cX12_widest 4 (Option.some Jvm.ClassFile.FieldType.int) [] 1 0 0) (hM : MW m h) {K0 : Int32 → Option (Int32)} {S : MM} {v1 : Value} {r : Int32} (E0 : Ex X 0 0 (.inl (some (.int r), (pm m h S)))) : ∀ (fu : Nat) (x2 x3 : Int32) , m_widest_9 K0 S fu x2 x3 = some r → (∀ (y2 : Int32) (u3 : Value) , K0 y2 = some r → wr X 0 0 38 [.ref m, v1, .int y2, u3] [] (pm m h S)) → wr X 0 0 9 [.ref m, v1, .int x2, .int x3] [] (pm m h S) := by
  intro fu
  induction fu with
  | zero =>
    intro x2 x3 E hK0
    rw [m_widest_9] at E
    cases E
  | succ fu ih =>
    intro x2 x3 E hK0
    rw [m_widest_9] at E
    refine r_iload_n (i := 3) C dX12_widest_9 rfl rfl ?_
    refine r_if_le (tgt := 38) C dX12_widest_10 (by decide) (fun c_10 => ?_) (fun c_10 => ?_)
    · have E := ite_t E c_10
      exact hK0 _ _ E
    · have E := ite_f E c_10
      refine r_iload_n (i := 3) C dX12_widest_13 rfl rfl ?_
      refine r_bipush (v := 10) C dX12_widest_14 (by decide) ?_
      refine r_irem C dX12_widest_16 (by decide) ?_
      refine r_iload_n (i := 2) C dX12_widest_17 rfl rfl ?_
      have J9 : ∀ (u : Unit), wr X 0 0 29 [.ref m, v1, .int x2, .int x3] [.int (if (x3 - x3 / (10 : Int32) * (10 : Int32)) ≤ x2 then x2 else x3 - x3 / (10 : Int32) * (10 : Int32))] (pm m h S) := by
        intro u
        refine bnd_elim (P := fun (z : Int32) => wr X 0 0 29 [.ref m, v1, .int x2, .int x3] [.int z] (pm m h S)) E (fun p10 E => ?_)
        refine r_istore_n (i := 2) C dX12_widest_29 rfl (Nat.le_of_ble_eq_true rfl) ?_
        refine r_iload_n (i := 3) C dX12_widest_30 rfl rfl ?_
        refine r_bipush (v := 10) C dX12_widest_31 (by decide) ?_
        refine r_idiv C dX12_widest_33 (by decide) ?_
        refine bnd_elim (P := fun (z : Int32) => wr X 0 0 34 [.ref m, v1, .int p10, .int x3] [.int z] (pm m h S)) E (fun p11 E => ?_)
        refine r_istore_n (i := 3) C dX12_widest_34 rfl (Nat.le_of_ble_eq_true rfl) ?_
        refine r_goto (tgt := 9) C dX12_widest_35 (by decide) ?_
        exact ih _ _ E hK0
      refine r_ic_le (tgt := 28) C dX12_widest_18 (by decide) (fun c_18_k8 => ?_) (fun c_18_k8 => ?_)
      · refine r_iload_n (i := 2) C dX12_widest_28 rfl rfl ?_
        first | exact (J9  ()) | (simp only [if_pos c_18_k8] at J9; exact (J9  ()))
      · refine r_iload_n (i := 3) C dX12_widest_21 rfl rfl ?_
        refine r_bipush (v := 10) C dX12_widest_22 (by decide) ?_
        refine r_irem C dX12_widest_24 (by decide) ?_
        refine r_goto (tgt := 29) C dX12_widest_25 (by decide) ?_
        first | exact (J9  ()) | (simp only [if_neg c_18_k8] at J9; exact (J9  ()))
def m_widest (S : MM) (a0 : Int32) : Option (Int32) := if ix a0 24 then bnd (S 8 (tn a0)) fun p4 => (m_widest_9 (fun p12 => if m_of_g S a0 (9 : Int32) then some (p12 * (m_of S a0 (9 : Int32))) else none) S 1000 (0 : Int32) p4) else none
theorem z_widest (l : Launch) (G : Gl) {m : Nat} {h : Hp} (hM : MW m h) {S : MM} {a0 : Int32} {r : Int32} (E : m_widest S a0 = some r) : MRw l G yX12_widest (.code yX12_widest cX12_widest 4 (Option.some Jvm.ClassFile.FieldType.int)) 1 0 0 [.ref m, .int a0] (pm m h S) (.inl (some (.int r), (pm m h S))) := by
  refine mr_of (by decide +kernel) (Nat.le_of_ble_eq_true rfl) (ct2 rfl rfl) (fun X hG hl C E0 => ?_)
  subst hG hl
  rw [m_widest] at E
  refine r_iconst (v := 0) C dX12_widest_0 (by decide) ?_
  refine r_istore_n (i := 2) C dX12_widest_1 rfl (Nat.le_of_ble_eq_true rfl) ?_
  refine r_aload_n (i := 0) C dX12_widest_2 rfl rfl (by first | rfl | exact isR_rf _) ?_
  refine rm_ref (k := 8) C f_X12_32 dX12_widest_3 rfl rfl hM rfl ?_
  refine r_iload_n (i := 1) C dX12_widest_6 rfl rfl ?_
  obtain ⟨g3, E⟩ := gd_elim E
  refine rm_iald (k := 8) C dX12_widest_7 hM rfl rfl g3 ?_
  refine bnd_elim (P := fun (z : Int32) => wr X 0 0 8 [.ref m, .int a0, .int (0 : Int32), (.long 0)] [.int z] (pm m h S)) E (fun p4 E => ?_)
  refine r_istore_n (i := 3) C dX12_widest_8 rfl (Nat.le_of_ble_eq_true rfl) ?_
  refine z_widest_9 C hM E0 _ _ _ E (fun p12 w13 E => ?_)
  refine r_iload_n (i := 2) C dX12_widest_38 rfl rfl ?_
  refine r_aload_n (i := 0) C dX12_widest_39 rfl rfl (by first | rfl | exact isR_rf _) ?_
  refine r_iload_n (i := 1) C dX12_widest_40 rfl rfl ?_
  refine r_bipush (v := 9) C dX12_widest_41 (by decide) ?_
  obtain ⟨g15, E⟩ := gd_elim E
  refine r_callVs C v_X12_223 (z_of _ _ hM g15) dX12_widest_43 hM.1 (ci := 10) (by decide) rfl rfl (As := [_, _]) rfl rfl rfl (by first | exact Nat.le_refl _ | exact Nat.le_of_ble_eq_true rfl | omega) (Nat.le_of_ble_eq_true rfl) (by first | exact Nat.le_refl _ | exact Nat.le_of_ble_eq_true rfl | omega) (by first | exact Nat.le_refl _ | exact Nat.le_of_ble_eq_true rfl | omega) ?_
  refine r_imul C dX12_widest_46 ?_
  obtain rfl := Option.some.inj E
  exact r_iret C E0 dX12_widest_47 rfl rfl (Nat.le_refl _) (Nat.le_refl _)

