/-! ===== the model: shares (by gen.py) ===== -/
def m_shares_15 (K0 : Int32 → Int32 → Option (MM)) (S : MM) (x1 : Int32) : Nat → Int32 → Int32 → Int32 → Option (MM)
  | 0, _, _, _ => none
  | fu + 1, x4, x5, x6 => if x1 ≤ x6 then (K0 x4 x5) else (if ix x6 24 then if ix (((4 : Int32) * (S 34 (tn x6))) + (2 : Int32)) 96 then bnd (x4 - (S 25 (tn (((4 : Int32) * (S 34 (tn x6))) + (2 : Int32))))) fun p12 => (if ((S 35 (tn x6)) = (0 : Int32) → m_of_g S (S 34 (tn x6)) (6 : Int32)) then bnd (if (S 35 (tn x6)) = (0 : Int32) then m_of S (S 34 (tn x6)) (6 : Int32) else (0 : Int32)) fun p17 => bnd (x5 + p17) fun p18 => (m_shares_15 K0 S x1 fu p12 p18 (x6 + 1)) else none) else none else none)
theorem z_shares_15 {X : Ctx} {m : Nat} {h : Hp} (C : Cx X yX12_shares cX12_shares 10 none [] 2 0 0) (hM : MW m h) {K0 : Int32 → Int32 → Option (MM)} {S : MM} {x1 : Int32} {v2 : Value} {r : MM} (E0 : Ex X 0 0 (.inl (none, pm m h r))) : ∀ (fu : Nat) (x4 x5 x6 : Int32) (u3 u7 u8 u9 : Value) , m_shares_15 K0 S x1 fu x4 x5 x6 = some r → (∀ (y4 y5 : Int32) (u3 u6 u7 u8 u9 : Value) , K0 y4 y5 = some r → wr X 0 0 80 [.ref m, .int x1, v2, u3, .int y4, .int y5, u6, u7, u8, u9] [] (pm m h S)) → wr X 0 0 15 [.ref m, .int x1, v2, u3, .int x4, .int x5, .int x6, u7, u8, u9] [] (pm m h S) := by
  intro fu
  induction fu with
  | zero =>
    intro x4 x5 x6 u3 u7 u8 u9 E hK0
    rw [m_shares_15] at E
    cases E
  | succ fu ih =>
    intro x4 x5 x6 u3 u7 u8 u9 E hK0
    rw [m_shares_15] at E
    refine r_iload (i := 6) C dX12_shares_15 rfl ?_
    refine r_iload_n (i := 1) C dX12_shares_17 rfl rfl ?_
    refine r_ic_ge (tgt := 80) C dX12_shares_18 (by decide) (fun c_18 => ?_) (fun c_18 => ?_)
    · have E := ite_t E c_18
      exact hK0 _ _ _ _ _ _ _ E
    · have E := ite_f E c_18
      refine r_iload (i := 4) C dX12_shares_21 rfl ?_
      refine r_aload_n (i := 0) C dX12_shares_23 rfl rfl (by first | rfl | exact isR_rf _) ?_
      refine rm_ref (k := 25) C f_X12_81 dX12_shares_24 rfl rfl hM rfl ?_
      refine r_iconst (v := 4) C dX12_shares_27 (by decide) ?_
      refine r_aload_n (i := 0) C dX12_shares_28 rfl rfl (by first | rfl | exact isR_rf _) ?_
      refine rm_ref (k := 34) C f_X12_102 dX12_shares_29 rfl rfl hM rfl ?_
      refine r_iload (i := 6) C dX12_shares_32 rfl ?_
      obtain ⟨g9, E⟩ := gd_elim E
      refine rm_iald (k := 34) C dX12_shares_34 hM rfl rfl g9 ?_
      refine r_imul C dX12_shares_35 ?_
      refine r_iconst (v := 2) C dX12_shares_36 (by decide) ?_
      refine r_iadd C dX12_shares_37 ?_
      obtain ⟨g11, E⟩ := gd_elim E
      refine rm_iald (k := 25) C dX12_shares_38 hM rfl rfl g11 ?_
      refine r_isub C dX12_shares_39 ?_
      refine bnd_elim (P := fun (z : Int32) => wr X 0 0 40 [.ref m, .int x1, v2, u3, .int x4, .int x5, .int x6, u7, u8, u9] [.int z] (pm m h S)) E (fun p12 E => ?_)
      refine r_istore (i := 4) C dX12_shares_40 (Nat.le_of_ble_eq_true rfl) ?_
      refine r_iload (i := 5) C dX12_shares_42 rfl ?_
      refine r_aload_n (i := 0) C dX12_shares_44 rfl rfl (by first | rfl | exact isR_rf _) ?_
      refine rm_ref (k := 35) C f_X12_105 dX12_shares_45 rfl rfl hM rfl ?_
      refine r_iload (i := 6) C dX12_shares_48 rfl ?_
      refine rm_zald (k := 35) C dX12_shares_50 hM rfl rfl g9 ?_
      obtain ⟨g15, E⟩ := gd_elim E
      have J16 : ∀ (u : Unit), wr X 0 0 71 [.ref m, .int x1, v2, u3, .int p12, .int x5, .int x6, u7, u8, u9] [.int (if (S 35 (tn x6)) = (0 : Int32) then m_of S (S 34 (tn x6)) (6 : Int32) else (0 : Int32)), .int x5] (pm m h S) := by
        intro u
        refine bnd_elim (P := fun (z : Int32) => wr X 0 0 71 [.ref m, .int x1, v2, u3, .int p12, .int x5, .int x6, u7, u8, u9] [.int z, .int x5] (pm m h S)) E (fun p17 E => ?_)
        refine r_iadd C dX12_shares_71 ?_
        refine bnd_elim (P := fun (z : Int32) => wr X 0 0 72 [.ref m, .int x1, v2, u3, .int p12, .int x5, .int x6, u7, u8, u9] [.int z] (pm m h S)) E (fun p18 E => ?_)
        refine r_istore (i := 5) C dX12_shares_72 (Nat.le_of_ble_eq_true rfl) ?_
        refine r_iinc1 (i := 6) C dX12_shares_74 rfl ?_
        refine r_goto (tgt := 15) C dX12_shares_77 (by decide) ?_
        exact ih _ _ _ _ _ _ _ E hK0
      refine r_if_eq (tgt := 58) C dX12_shares_51 (by decide) (fun c_51_k13 => ?_) (fun c_51_k13 => ?_)
      · refine r_aload_n (i := 0) C dX12_shares_58 rfl rfl (by first | rfl | exact isR_rf _) ?_
        refine r_aload_n (i := 0) C dX12_shares_59 rfl rfl (by first | rfl | exact isR_rf _) ?_
        refine rm_ref (k := 34) C f_X12_102 dX12_shares_60 rfl rfl hM rfl ?_
        refine r_iload (i := 6) C dX12_shares_63 rfl ?_
        refine rm_iald (k := 34) C dX12_shares_65 hM rfl rfl g9 ?_
        refine r_bipush (v := 6) C dX12_shares_66 (by decide) ?_
        refine r_callVs C v_X12_223 (z_of _ _ hM (g15 c_51_k13)) dX12_shares_68 hM.1 (ci := 10) (by decide) rfl rfl (As := [_, _]) rfl rfl rfl (by first | exact Nat.le_refl _ | exact Nat.le_of_ble_eq_true rfl | omega) (Nat.le_of_ble_eq_true rfl) (by first | exact Nat.le_refl _ | exact Nat.le_of_ble_eq_true rfl | omega) (by first | exact Nat.le_refl _ | exact Nat.le_of_ble_eq_true rfl | omega) ?_
        first | exact (J16  ()) | (simp only [if_pos c_51_k13] at J16; exact (J16  ()))
      · refine r_iconst (v := 0) C dX12_shares_54 (by decide) ?_
        refine r_goto (tgt := 71) C dX12_shares_55 (by decide) ?_
        first | exact (J16  ()) | (simp only [if_neg c_51_k13] at J16; exact (J16  ()))
def m_shares_99 (K0 : Int32 → Option (MM)) (S : MM) (x1 x4 x5 : Int32) : Nat → Int32 → Int32 → Option (MM)
  | 0, _, _ => none
  | fu + 1, x6, x7 => if x1 ≤ x7 then (K0 x6) else (if ix x7 24 then if ((S 35 (tn x7)) = (0 : Int32) → (m_of_g S (S 34 (tn x7)) (6 : Int32) ∧ ¬ x5 = 0)) then bnd (if (S 35 (tn x7)) = (0 : Int32) then (x4 * (m_of S (S 34 (tn x7)) (6 : Int32))) / x5 else (0 : Int32)) fun p42 => bnd (x6 - p42) fun p43 => (m_shares_99 K0 S x1 x4 x5 fu p43 (x7 + 1)) else none else none)
theorem z_shares_99 {X : Ctx} {m : Nat} {h : Hp} (C : Cx X yX12_shares cX12_shares 10 none [] 2 0 0) (hM : MW m h) {K0 : Int32 → Option (MM)} {S : MM} {x1 x4 x5 : Int32} {v2 v3 : Value} {r : MM} (E0 : Ex X 0 0 (.inl (none, pm m h r))) : ∀ (fu : Nat) (x6 x7 : Int32) (u8 u9 : Value) , m_shares_99 K0 S x1 x4 x5 fu x6 x7 = some r → (∀ (y6 : Int32) (u7 u8 u9 : Value) , K0 y6 = some r → wr X 0 0 149 [.ref m, .int x1, v2, v3, .int x4, .int x5, .int y6, u7, u8, u9] [] (pm m h S)) → wr X 0 0 99 [.ref m, .int x1, v2, v3, .int x4, .int x5, .int x6, .int x7, u8, u9] [] (pm m h S) := by
  intro fu
  induction fu with
  | zero =>
    intro x6 x7 u8 u9 E hK0
    rw [m_shares_99] at E
    cases E
  | succ fu ih =>
    intro x6 x7 u8 u9 E hK0
    rw [m_shares_99] at E
    refine r_iload (i := 7) C dX12_shares_99 rfl ?_
    refine r_iload_n (i := 1) C dX12_shares_101 rfl rfl ?_
    refine r_ic_ge (tgt := 149) C dX12_shares_102 (by decide) (fun c_102 => ?_) (fun c_102 => ?_)
    · have E := ite_t E c_102
      exact hK0 _ _ _ _ E
    · have E := ite_f E c_102
      refine r_iload (i := 6) C dX12_shares_105 rfl ?_
      refine r_aload_n (i := 0) C dX12_shares_107 rfl rfl (by first | rfl | exact isR_rf _) ?_
      refine rm_ref (k := 35) C f_X12_105 dX12_shares_108 rfl rfl hM rfl ?_
      refine r_iload (i := 7) C dX12_shares_111 rfl ?_
      obtain ⟨g36, E⟩ := gd_elim E
      refine rm_zald (k := 35) C dX12_shares_113 hM rfl rfl g36 ?_
      obtain ⟨g40, E⟩ := gd_elim E
      have J41 : ∀ (u : Unit), wr X 0 0 140 [.ref m, .int x1, v2, v3, .int x4, .int x5, .int x6, .int x7, u8, u9] [.int (if (S 35 (tn x7)) = (0 : Int32) then (x4 * (m_of S (S 34 (tn x7)) (6 : Int32))) / x5 else (0 : Int32)), .int x6] (pm m h S) := by
        intro u
        refine bnd_elim (P := fun (z : Int32) => wr X 0 0 140 [.ref m, .int x1, v2, v3, .int x4, .int x5, .int x6, .int x7, u8, u9] [.int z, .int x6] (pm m h S)) E (fun p42 E => ?_)
        refine r_isub C dX12_shares_140 ?_
        refine bnd_elim (P := fun (z : Int32) => wr X 0 0 141 [.ref m, .int x1, v2, v3, .int x4, .int x5, .int x6, .int x7, u8, u9] [.int z] (pm m h S)) E (fun p43 E => ?_)
        refine r_istore (i := 6) C dX12_shares_141 (Nat.le_of_ble_eq_true rfl) ?_
        refine r_iinc1 (i := 7) C dX12_shares_143 rfl ?_
        refine r_goto (tgt := 99) C dX12_shares_146 (by decide) ?_
        exact ih _ _ _ _ E hK0
      refine r_if_eq (tgt := 121) C dX12_shares_114 (by decide) (fun c_114_k37 => ?_) (fun c_114_k37 => ?_)
      · refine r_iload (i := 4) C dX12_shares_121 rfl ?_
        refine r_aload_n (i := 0) C dX12_shares_123 rfl rfl (by first | rfl | exact isR_rf _) ?_
        refine r_aload_n (i := 0) C dX12_shares_124 rfl rfl (by first | rfl | exact isR_rf _) ?_
        refine rm_ref (k := 34) C f_X12_102 dX12_shares_125 rfl rfl hM rfl ?_
        refine r_iload (i := 7) C dX12_shares_128 rfl ?_
        refine rm_iald (k := 34) C dX12_shares_130 hM rfl rfl g36 ?_
        refine r_bipush (v := 6) C dX12_shares_131 (by decide) ?_
        refine r_callVs C v_X12_223 (z_of _ _ hM (g40 c_114_k37).1) dX12_shares_133 hM.1 (ci := 10) (by decide) rfl rfl (As := [_, _]) rfl rfl rfl (by first | exact Nat.le_refl _ | exact Nat.le_of_ble_eq_true rfl | omega) (Nat.le_of_ble_eq_true rfl) (by first | exact Nat.le_refl _ | exact Nat.le_of_ble_eq_true rfl | omega) (by first | exact Nat.le_refl _ | exact Nat.le_of_ble_eq_true rfl | omega) ?_
        refine r_imul C dX12_shares_136 ?_
        refine r_iload (i := 5) C dX12_shares_137 rfl ?_
        refine r_idiv C dX12_shares_139 (g40 c_114_k37).2 ?_
        first | exact (J41  ()) | (simp only [if_pos c_114_k37] at J41; exact (J41  ()))
      · refine r_iconst (v := 0) C dX12_shares_117 (by decide) ?_
        refine r_goto (tgt := 140) C dX12_shares_118 (by decide) ?_
        first | exact (J41  ()) | (simp only [if_neg c_114_k37] at J41; exact (J41  ()))
def m_shares_152 (K0 : Int32 → MM → Option (MM)) (x1 x4 x5 : Int32) : Nat → Int32 → Int32 → Int32 → MM → Option (MM)
  | 0, _, _, _, _ => none
  | fu + 1, x3, x6, x7, S => if x1 ≤ x7 then (K0 x3 S) else (if ix x7 24 then if ((S 35 (tn x7)) = (0 : Int32) → m_of_g S (S 34 (tn x7)) (6 : Int32)) then bnd (if (S 35 (tn x7)) = (0 : Int32) then if (m_of S (S 34 (tn x7)) (6 : Int32)) ≤ (0 : Int32) then (0 : Int32) else (1 : Int32) else (0 : Int32)) fun p61 => (if (¬ (p61 = (0 : Int32)) → (m_of_g S (S 34 (tn x7)) (6 : Int32) ∧ ¬ x5 = 0)) then bnd (if p61 = (0 : Int32) then (0 : Int32) else ((x4 * (m_of S (S 34 (tn x7)) (6 : Int32))) / x5) + (if x6 ≤ (0 : Int32) then (0 : Int32) else (1 : Int32))) fun p69 => bnd (u2 S 38 (tn x7) p69) fun S70 => (bnd (if p61 = (0 : Int32) then (0 : Int32) else if x6 ≤ (0 : Int32) then (0 : Int32) else (1 : Int32)) fun p74 => bnd (x6 - p74) fun p75 => (if ix (((4 : Int32) * (S70 34 (tn x7))) + (2 : Int32)) 96 then bnd ((S70 25 (tn (((4 : Int32) * (S70 34 (tn x7))) + (2 : Int32)))) + (S70 38 (tn x7))) fun p78 => (if m_capped_g S70 (S70 34 (tn x7)) p78 then bnd (if p78 ≤ (m_capped S70 (S70 34 (tn x7)) p78) then (0 : Int32) else (1 : Int32)) fun p83 => if (p83 = 0 ∨ p83 = 1) then bnd (u2 S70 39 (tn x7) p83) fun S84 => (bnd (x3 ||| (S84 39 (tn x7))) fun p86 => (m_shares_152 K0 x1 x4 x5 fu p86 p75 (x7 + 1) S84)) else none else none) else none)) else none) else none else none)
theorem z_shares_152 {X : Ctx} {m : Nat} {h : Hp} (C : Cx X yX12_shares cX12_shares 10 none [] 2 0 0) (hM : MW m h) {K0 : Int32 → MM → Option (MM)} {x1 x4 x5 : Int32} {v2 : Value} {r : MM} (E0 : Ex X 0 0 (.inl (none, pm m h r))) : ∀ (fu : Nat) (x3 x6 x7 : Int32) (S : MM) (u8 u9 : Value) , m_shares_152 K0 x1 x4 x5 fu x3 x6 x7 S = some r → (∀ (y3 : Int32) (S2 : MM) (u4 u5 u6 u7 u8 u9 : Value) , K0 y3 S2 = some r → wr X 0 0 329 [.ref m, .int x1, v2, .int y3, u4, u5, u6, u7, u8, u9] [] (pm m h S2)) → wr X 0 0 152 [.ref m, .int x1, v2, .int x3, .int x4, .int x5, .int x6, .int x7, u8, u9] [] (pm m h S) := by
  intro fu
  induction fu with
  | zero =>
    intro x3 x6 x7 S u8 u9 E hK0
    rw [m_shares_152] at E
    cases E
  | succ fu ih =>
    intro x3 x6 x7 S u8 u9 E hK0
    rw [m_shares_152] at E
    refine r_iload (i := 7) C dX12_shares_152 rfl ?_
    refine r_iload_n (i := 1) C dX12_shares_154 rfl rfl ?_
    refine r_ic_ge (tgt := 329) C dX12_shares_155 (by decide) (fun c_155 => ?_) (fun c_155 => ?_)
    · have E := ite_t E c_155
      exact hK0 _ _ _ _ _ _ _ _ E
    · have E := ite_f E c_155
      refine r_aload_n (i := 0) C dX12_shares_158 rfl rfl (by first | rfl | exact isR_rf _) ?_
      refine rm_ref (k := 35) C f_X12_105 dX12_shares_159 rfl rfl hM rfl ?_
      refine r_iload (i := 7) C dX12_shares_162 rfl ?_
      obtain ⟨g55, E⟩ := gd_elim E
      refine rm_zald (k := 35) C dX12_shares_164 hM rfl rfl g55 ?_
      obtain ⟨g59, E⟩ := gd_elim E
      have J60 : ∀ (u : Unit), wr X 0 0 189 [.ref m, .int x1, v2, .int x3, .int x4, .int x5, .int x6, .int x7, u8, u9] [.int (if (S 35 (tn x7)) = (0 : Int32) then if (m_of S (S 34 (tn x7)) (6 : Int32)) ≤ (0 : Int32) then (0 : Int32) else (1 : Int32) else (0 : Int32))] (pm m h S) := by
        intro u
        refine bnd_elim (P := fun (z : Int32) => wr X 0 0 189 [.ref m, .int x1, v2, .int x3, .int x4, .int x5, .int x6, .int x7, u8, u9] [.int z] (pm m h S)) E (fun p61 E => ?_)
        refine r_istore (i := 8) C dX12_shares_189 (Nat.le_of_ble_eq_true rfl) ?_
        refine r_aload_n (i := 0) C dX12_shares_191 rfl rfl (by first | rfl | exact isR_rf _) ?_
        refine rm_ref (k := 38) C f_X12_114 dX12_shares_192 rfl rfl hM rfl ?_
        refine r_iload (i := 7) C dX12_shares_195 rfl ?_
        refine r_iload (i := 8) C dX12_shares_197 rfl ?_
        obtain ⟨g67, E⟩ := gd_elim E
        have J68 : ∀ (u : Unit), wr X 0 0 236 [.ref m, .int x1, v2, .int x3, .int x4, .int x5, .int x6, .int x7, .int p61, u9] [.int (if p61 = (0 : Int32) then (0 : Int32) else ((x4 * (m_of S (S 34 (tn x7)) (6 : Int32))) / x5) + (if x6 ≤ (0 : Int32) then (0 : Int32) else (1 : Int32))), .int x7, .ref (m + mad 38)] (pm m h S) := by
          intro u
          refine bnd_elim (P := fun (z : Int32) => wr X 0 0 236 [.ref m, .int x1, v2, .int x3, .int x4, .int x5, .int x6, .int x7, .int p61, u9] [.int z, .int x7, .ref (m + mad 38)] (pm m h S)) E (fun p69 E => ?_)
          refine rm_iast (k := 38) C dX12_shares_236 hM rfl rfl g55 ?_
          refine bnd_elim (P := fun (Z : MM) => wr X 0 0 237 [.ref m, .int x1, v2, .int x3, .int x4, .int x5, .int x6, .int x7, .int p61, u9] [] (pm m h Z)) E (fun S70 E => ?_)
          refine r_iload (i := 6) C dX12_shares_237 rfl ?_
          refine r_iload (i := 8) C dX12_shares_239 rfl ?_
          have J73 : ∀ (u : Unit), wr X 0 0 254 [.ref m, .int x1, v2, .int x3, .int x4, .int x5, .int x6, .int x7, .int p61, u9] [.int (if p61 = (0 : Int32) then (0 : Int32) else if x6 ≤ (0 : Int32) then (0 : Int32) else (1 : Int32)), .int x6] (pm m h S70) := by
            intro u
            refine bnd_elim (P := fun (z : Int32) => wr X 0 0 254 [.ref m, .int x1, v2, .int x3, .int x4, .int x5, .int x6, .int x7, .int p61, u9] [.int z, .int x6] (pm m h S70)) E (fun p74 E => ?_)
            refine r_isub C dX12_shares_254 ?_
            refine bnd_elim (P := fun (z : Int32) => wr X 0 0 255 [.ref m, .int x1, v2, .int x3, .int x4, .int x5, .int x6, .int x7, .int p61, u9] [.int z] (pm m h S70)) E (fun p75 E => ?_)
            refine r_istore (i := 6) C dX12_shares_255 (Nat.le_of_ble_eq_true rfl) ?_
            refine r_aload_n (i := 0) C dX12_shares_257 rfl rfl (by first | rfl | exact isR_rf _) ?_
            refine rm_ref (k := 25) C f_X12_81 dX12_shares_258 rfl rfl hM rfl ?_
            refine r_iconst (v := 4) C dX12_shares_261 (by decide) ?_
            refine r_aload_n (i := 0) C dX12_shares_262 rfl rfl (by first | rfl | exact isR_rf _) ?_
            refine rm_ref (k := 34) C f_X12_102 dX12_shares_263 rfl rfl hM rfl ?_
            refine r_iload (i := 7) C dX12_shares_266 rfl ?_
            refine rm_iald (k := 34) C dX12_shares_268 hM rfl rfl g55 ?_
            refine r_imul C dX12_shares_269 ?_
            refine r_iconst (v := 2) C dX12_shares_270 (by decide) ?_
            refine r_iadd C dX12_shares_271 ?_
            obtain ⟨g77, E⟩ := gd_elim E
            refine rm_iald (k := 25) C dX12_shares_272 hM rfl rfl g77 ?_
            refine r_aload_n (i := 0) C dX12_shares_273 rfl rfl (by first | rfl | exact isR_rf _) ?_
            refine rm_ref (k := 38) C f_X12_114 dX12_shares_274 rfl rfl hM rfl ?_
            refine r_iload (i := 7) C dX12_shares_277 rfl ?_
            refine rm_iald (k := 38) C dX12_shares_279 hM rfl rfl g55 ?_
            refine r_iadd C dX12_shares_280 ?_
            refine bnd_elim (P := fun (z : Int32) => wr X 0 0 281 [.ref m, .int x1, v2, .int x3, .int x4, .int x5, .int p75, .int x7, .int p61, u9] [.int z] (pm m h S70)) E (fun p78 E => ?_)
            refine r_istore (i := 9) C dX12_shares_281 (Nat.le_of_ble_eq_true rfl) ?_
            refine r_aload_n (i := 0) C dX12_shares_283 rfl rfl (by first | rfl | exact isR_rf _) ?_
            refine rm_ref (k := 39) C f_X12_117 dX12_shares_284 rfl rfl hM rfl ?_
            refine r_iload (i := 7) C dX12_shares_287 rfl ?_
            refine r_aload_n (i := 0) C dX12_shares_289 rfl rfl (by first | rfl | exact isR_rf _) ?_
            refine r_aload_n (i := 0) C dX12_shares_290 rfl rfl (by first | rfl | exact isR_rf _) ?_
            refine rm_ref (k := 34) C f_X12_102 dX12_shares_291 rfl rfl hM rfl ?_
            refine r_iload (i := 7) C dX12_shares_294 rfl ?_
            refine rm_iald (k := 34) C dX12_shares_296 hM rfl rfl g55 ?_
            refine r_iload (i := 9) C dX12_shares_297 rfl ?_
            obtain ⟨g80, E⟩ := gd_elim E
            refine r_callVs C v_X12_229 (z_capped _ _ hM g80) dX12_shares_299 hM.1 (ci := 10) (by decide) rfl rfl (As := [_, _]) rfl rfl rfl (by first | exact Nat.le_refl _ | exact Nat.le_of_ble_eq_true rfl | omega) (Nat.le_of_ble_eq_true rfl) (by first | exact Nat.le_refl _ | exact Nat.le_of_ble_eq_true rfl | omega) (by first | exact Nat.le_refl _ | exact Nat.le_of_ble_eq_true rfl | omega) ?_
            refine r_iload (i := 9) C dX12_shares_302 rfl ?_
            have J82 : ∀ (u : Unit), wr X 0 0 312 [.ref m, .int x1, v2, .int x3, .int x4, .int x5, .int p75, .int x7, .int p61, .int p78] [.int (if p78 ≤ (m_capped S70 (S70 34 (tn x7)) p78) then (0 : Int32) else (1 : Int32)), .int x7, .ref (m + mad 39)] (pm m h S70) := by
              intro u
              refine bnd_elim (P := fun (z : Int32) => wr X 0 0 312 [.ref m, .int x1, v2, .int x3, .int x4, .int x5, .int p75, .int x7, .int p61, .int p78] [.int z, .int x7, .ref (m + mad 39)] (pm m h S70)) E (fun p83 E => ?_)
              obtain ⟨g85, E⟩ := gd_elim E
              refine rm_zast (k := 39) C dX12_shares_312 hM rfl rfl g55 g85 ?_
              refine bnd_elim (P := fun (Z : MM) => wr X 0 0 313 [.ref m, .int x1, v2, .int x3, .int x4, .int x5, .int p75, .int x7, .int p61, .int p78] [] (pm m h Z)) E (fun S84 E => ?_)
              refine r_iload_n (i := 3) C dX12_shares_313 rfl rfl ?_
              refine r_aload_n (i := 0) C dX12_shares_314 rfl rfl (by first | rfl | exact isR_rf _) ?_
              refine rm_ref (k := 39) C f_X12_117 dX12_shares_315 rfl rfl hM rfl ?_
              refine r_iload (i := 7) C dX12_shares_318 rfl ?_
              refine rm_zald (k := 39) C dX12_shares_320 hM rfl rfl g55 ?_
              refine r_ior C dX12_shares_321 ?_
              refine bnd_elim (P := fun (z : Int32) => wr X 0 0 322 [.ref m, .int x1, v2, .int x3, .int x4, .int x5, .int p75, .int x7, .int p61, .int p78] [.int z] (pm m h S84)) E (fun p86 E => ?_)
              refine r_istore_n (i := 3) C dX12_shares_322 rfl (Nat.le_of_ble_eq_true rfl) ?_
              refine r_iinc1 (i := 7) C dX12_shares_323 rfl ?_
              refine r_goto (tgt := 152) C dX12_shares_326 (by decide) ?_
              exact ih _ _ _ _ _ _ E hK0
            refine r_ic_ge (tgt := 311) C dX12_shares_304 (by decide) (fun c_304_k81 => ?_) (fun c_304_k81 => ?_)
            · refine r_iconst (v := 0) C dX12_shares_311 (by decide) ?_
              first | exact (J82  ()) | (simp only [if_pos c_304_k81] at J82; exact (J82  ()))
            · refine r_iconst (v := 1) C dX12_shares_307 (by decide) ?_
              refine r_goto (tgt := 312) C dX12_shares_308 (by decide) ?_
              first | exact (J82  ()) | (simp only [if_neg c_304_k81] at J82; exact (J82  ()))
          refine r_if_eq (tgt := 253) C dX12_shares_241 (by decide) (fun c_241_k71 => ?_) (fun c_241_k71 => ?_)
          · refine r_iconst (v := 0) C dX12_shares_253 (by decide) ?_
            first | exact (J73  ()) | (simp only [if_pos c_241_k71] at J73; exact (J73  ()))
          · refine r_iload (i := 6) C dX12_shares_244 rfl ?_
            refine r_if_le (tgt := 253) C dX12_shares_246 (by decide) (fun c_246_k72 => ?_) (fun c_246_k72 => ?_)
            · refine r_iconst (v := 0) C dX12_shares_253 (by decide) ?_
              first | exact (J73  ()) | (simp only [if_neg c_241_k71, if_pos c_246_k72] at J73; exact (J73  ()))
            · refine r_iconst (v := 1) C dX12_shares_249 (by decide) ?_
              refine r_goto (tgt := 254) C dX12_shares_250 (by decide) ?_
              first | exact (J73  ()) | (simp only [if_neg c_241_k71, if_neg c_246_k72] at J73; exact (J73  ()))
        refine r_if_eq (tgt := 235) C dX12_shares_199 (by decide) (fun c_199_k62 => ?_) (fun c_199_k62 => ?_)
        · refine r_iconst (v := 0) C dX12_shares_235 (by decide) ?_
          first | exact (J68  ()) | (simp only [if_pos c_199_k62] at J68; exact (J68  ()))
        · refine r_iload (i := 4) C dX12_shares_202 rfl ?_
          refine r_aload_n (i := 0) C dX12_shares_204 rfl rfl (by first | rfl | exact isR_rf _) ?_
          refine r_aload_n (i := 0) C dX12_shares_205 rfl rfl (by first | rfl | exact isR_rf _) ?_
          refine rm_ref (k := 34) C f_X12_102 dX12_shares_206 rfl rfl hM rfl ?_
          refine r_iload (i := 7) C dX12_shares_209 rfl ?_
          refine rm_iald (k := 34) C dX12_shares_211 hM rfl rfl g55 ?_
          refine r_bipush (v := 6) C dX12_shares_212 (by decide) ?_
          refine r_callVs C v_X12_223 (z_of _ _ hM (g67 c_199_k62).1) dX12_shares_214 hM.1 (ci := 10) (by decide) rfl rfl (As := [_, _]) rfl rfl rfl (by first | exact Nat.le_refl _ | exact Nat.le_of_ble_eq_true rfl | omega) (Nat.le_of_ble_eq_true rfl) (by first | exact Nat.le_refl _ | exact Nat.le_of_ble_eq_true rfl | omega) (by first | exact Nat.le_refl _ | exact Nat.le_of_ble_eq_true rfl | omega) ?_
          refine r_imul C dX12_shares_217 ?_
          refine r_iload (i := 5) C dX12_shares_218 rfl ?_
          refine r_idiv C dX12_shares_220 (g67 c_199_k62).2 ?_
          refine r_iload (i := 6) C dX12_shares_221 rfl ?_
          have J66 : ∀ (u : Unit), wr X 0 0 231 [.ref m, .int x1, v2, .int x3, .int x4, .int x5, .int x6, .int x7, .int p61, u9] [.int (if x6 ≤ (0 : Int32) then (0 : Int32) else (1 : Int32)), .int ((x4 * (m_of S (S 34 (tn x7)) (6 : Int32))) / x5), .int x7, .ref (m + mad 38)] (pm m h S) := by
            intro u
            refine r_iadd C dX12_shares_231 ?_
            refine r_goto (tgt := 236) C dX12_shares_232 (by decide) ?_
            first | exact (J68  ()) | (simp only [if_neg c_199_k62] at J68; exact (J68  ()))
          refine r_if_le (tgt := 230) C dX12_shares_223 (by decide) (fun c_223_k65 => ?_) (fun c_223_k65 => ?_)
          · refine r_iconst (v := 0) C dX12_shares_230 (by decide) ?_
            first | exact (J66  ()) | (simp only [if_pos c_223_k65] at J66; exact (J66  ()))
          · refine r_iconst (v := 1) C dX12_shares_226 (by decide) ?_
            refine r_goto (tgt := 231) C dX12_shares_227 (by decide) ?_
            first | exact (J66  ()) | (simp only [if_neg c_223_k65] at J66; exact (J66  ()))
      refine r_if_ne (tgt := 188) C dX12_shares_165 (by decide) (fun c_165_k56 => ?_) (fun c_165_k56 => ?_)
      · refine r_iconst (v := 0) C dX12_shares_188 (by decide) ?_
        first | exact (J60  ()) | (simp only [if_neg c_165_k56] at J60; exact (J60  ()))
      · refine r_aload_n (i := 0) C dX12_shares_168 rfl rfl (by first | rfl | exact isR_rf _) ?_
        refine r_aload_n (i := 0) C dX12_shares_169 rfl rfl (by first | rfl | exact isR_rf _) ?_
        refine rm_ref (k := 34) C f_X12_102 dX12_shares_170 rfl rfl hM rfl ?_
        refine r_iload (i := 7) C dX12_shares_173 rfl ?_
        refine rm_iald (k := 34) C dX12_shares_175 hM rfl rfl g55 ?_
        refine r_bipush (v := 6) C dX12_shares_176 (by decide) ?_
        refine r_callVs C v_X12_223 (z_of _ _ hM (g59 c_165_k56)) dX12_shares_178 hM.1 (ci := 10) (by decide) rfl rfl (As := [_, _]) rfl rfl rfl (by first | exact Nat.le_refl _ | exact Nat.le_of_ble_eq_true rfl | omega) (Nat.le_of_ble_eq_true rfl) (by first | exact Nat.le_refl _ | exact Nat.le_of_ble_eq_true rfl | omega) (by first | exact Nat.le_refl _ | exact Nat.le_of_ble_eq_true rfl | omega) ?_
        refine r_if_le (tgt := 188) C dX12_shares_181 (by decide) (fun c_181_k58 => ?_) (fun c_181_k58 => ?_)
        · refine r_iconst (v := 0) C dX12_shares_188 (by decide) ?_
          first | exact (J60  ()) | (simp only [if_pos c_165_k56, if_pos c_181_k58] at J60; exact (J60  ()))
        · refine r_iconst (v := 1) C dX12_shares_184 (by decide) ?_
          refine r_goto (tgt := 189) C dX12_shares_185 (by decide) ?_
          first | exact (J60  ()) | (simp only [if_pos c_165_k56, if_neg c_181_k58] at J60; exact (J60  ()))
def m_shares_332 (K0 : MM → Option (MM)) (x1 x3 : Int32) : Nat → Int32 → MM → Option (MM)
  | 0, _, _ => none
  | fu + 1, x7, S => if x1 ≤ x7 then (K0 S) else (if ix x7 24 then if (S 39 (tn x7)) = (0 : Int32) then (if x3 = (0 : Int32) then (if ix (((4 : Int32) * (S 34 (tn x7))) + (2 : Int32)) 96 then bnd (u2 S 25 (tn (((4 : Int32) * (S 34 (tn x7))) + (2 : Int32))) ((S 25 (tn (((4 : Int32) * (S 34 (tn x7))) + (2 : Int32)))) + (S 38 (tn x7)))) fun S109 => (m_shares_332 K0 x1 x3 fu (x7 + 1) S109) else none) else (m_shares_332 K0 x1 x3 fu (x7 + 1) S)) else (if m_of_g S (S 34 (tn x7)) (2 : Int32) then if ix (((4 : Int32) * (S 34 (tn x7))) + (2 : Int32)) 96 then bnd (u2 S 25 (tn (((4 : Int32) * (S 34 (tn x7))) + (2 : Int32))) (m_of S (S 34 (tn x7)) (2 : Int32))) fun S112 => (bnd (u2 S112 35 (tn x7) (1 : Int32)) fun S114 => (m_shares_332 K0 x1 x3 fu (x7 + 1) S114)) else none else none) else none)
theorem z_shares_332 {X : Ctx} {m : Nat} {h : Hp} (C : Cx X yX12_shares cX12_shares 10 none [] 2 0 0) (hM : MW m h) {K0 : MM → Option (MM)} {x1 x3 : Int32} {v2 : Value} {r : MM} (E0 : Ex X 0 0 (.inl (none, pm m h r))) : ∀ (fu : Nat) (x7 : Int32) (S : MM) (u4 u5 u6 u8 u9 : Value) , m_shares_332 K0 x1 x3 fu x7 S = some r → (∀ (S2 : MM) (u4 u5 u6 u7 u8 u9 : Value) , K0 S2 = some r → wr X 0 0 423 [.ref m, .int x1, v2, .int x3, u4, u5, u6, u7, u8, u9] [] (pm m h S2)) → wr X 0 0 332 [.ref m, .int x1, v2, .int x3, u4, u5, u6, .int x7, u8, u9] [] (pm m h S) := by
  intro fu
  induction fu with
  | zero =>
    intro x7 S u4 u5 u6 u8 u9 E hK0
    rw [m_shares_332] at E
    cases E
  | succ fu ih =>
    intro x7 S u4 u5 u6 u8 u9 E hK0
    rw [m_shares_332] at E
    refine r_iload (i := 7) C dX12_shares_332 rfl ?_
    refine r_iload_n (i := 1) C dX12_shares_334 rfl rfl ?_
    refine r_ic_ge (tgt := 423) C dX12_shares_335 (by decide) (fun c_335 => ?_) (fun c_335 => ?_)
    · have E := ite_t E c_335
      exact hK0 _ _ _ _ _ _ _ E
    · have E := ite_f E c_335
      refine r_aload_n (i := 0) C dX12_shares_338 rfl rfl (by first | rfl | exact isR_rf _) ?_
      refine rm_ref (k := 39) C f_X12_117 dX12_shares_339 rfl rfl hM rfl ?_
      refine r_iload (i := 7) C dX12_shares_342 rfl ?_
      obtain ⟨g101, E⟩ := gd_elim E
      refine rm_zald (k := 39) C dX12_shares_344 hM rfl rfl g101 ?_
      refine r_if_eq (tgt := 387) C dX12_shares_345 (by decide) (fun c_345 => ?_) (fun c_345 => ?_)
      · have E := ite_t E c_345
        refine r_iload_n (i := 3) C dX12_shares_387 rfl rfl ?_
        refine r_if_ne (tgt := 417) C dX12_shares_388 (by decide) (fun c_388 => ?_) (fun c_388 => ?_)
        · have E := ite_f E c_388
          refine r_iinc1 (i := 7) C dX12_shares_417 rfl ?_
          refine r_goto (tgt := 332) C dX12_shares_420 (by decide) ?_
          exact ih _ _ _ _ _ _ _ E hK0
        · have E := ite_t E c_388
          refine r_aload_n (i := 0) C dX12_shares_391 rfl rfl (by first | rfl | exact isR_rf _) ?_
          refine rm_ref (k := 25) C f_X12_81 dX12_shares_392 rfl rfl hM rfl ?_
          refine r_iconst (v := 4) C dX12_shares_395 (by decide) ?_
          refine r_aload_n (i := 0) C dX12_shares_396 rfl rfl (by first | rfl | exact isR_rf _) ?_
          refine rm_ref (k := 34) C f_X12_102 dX12_shares_397 rfl rfl hM rfl ?_
          refine r_iload (i := 7) C dX12_shares_400 rfl ?_
          refine rm_iald (k := 34) C dX12_shares_402 hM rfl rfl g101 ?_
          refine r_imul C dX12_shares_403 ?_
          refine r_iconst (v := 2) C dX12_shares_404 (by decide) ?_
          refine r_iadd C dX12_shares_405 ?_
          refine r_dup2 C (by first | rfl | exact isR_cat (isR_rf _)) (by first | rfl | exact isR_cat (isR_rf _)) dX12_shares_406 ?_
          obtain ⟨g108, E⟩ := gd_elim E
          refine rm_iald (k := 25) C dX12_shares_407 hM rfl rfl g108 ?_
          refine r_aload_n (i := 0) C dX12_shares_408 rfl rfl (by first | rfl | exact isR_rf _) ?_
          refine rm_ref (k := 38) C f_X12_114 dX12_shares_409 rfl rfl hM rfl ?_
          refine r_iload (i := 7) C dX12_shares_412 rfl ?_
          refine rm_iald (k := 38) C dX12_shares_414 hM rfl rfl g101 ?_
          refine r_iadd C dX12_shares_415 ?_
          refine rm_iast (k := 25) C dX12_shares_416 hM rfl rfl g108 ?_
          refine bnd_elim (P := fun (Z : MM) => wr X 0 0 417 [.ref m, .int x1, v2, .int x3, u4, u5, u6, .int x7, u8, u9] [] (pm m h Z)) E (fun S109 E => ?_)
          refine r_iinc1 (i := 7) C dX12_shares_417 rfl ?_
          refine r_goto (tgt := 332) C dX12_shares_420 (by decide) ?_
          exact ih _ _ _ _ _ _ _ E hK0
      · have E := ite_f E c_345
        refine r_aload_n (i := 0) C dX12_shares_348 rfl rfl (by first | rfl | exact isR_rf _) ?_
        refine rm_ref (k := 25) C f_X12_81 dX12_shares_349 rfl rfl hM rfl ?_
        refine r_iconst (v := 4) C dX12_shares_352 (by decide) ?_
        refine r_aload_n (i := 0) C dX12_shares_353 rfl rfl (by first | rfl | exact isR_rf _) ?_
        refine rm_ref (k := 34) C f_X12_102 dX12_shares_354 rfl rfl hM rfl ?_
        refine r_iload (i := 7) C dX12_shares_357 rfl ?_
        refine rm_iald (k := 34) C dX12_shares_359 hM rfl rfl g101 ?_
        refine r_imul C dX12_shares_360 ?_
        refine r_iconst (v := 2) C dX12_shares_361 (by decide) ?_
        refine r_iadd C dX12_shares_362 ?_
        refine r_aload_n (i := 0) C dX12_shares_363 rfl rfl (by first | rfl | exact isR_rf _) ?_
        refine r_aload_n (i := 0) C dX12_shares_364 rfl rfl (by first | rfl | exact isR_rf _) ?_
        refine rm_ref (k := 34) C f_X12_102 dX12_shares_365 rfl rfl hM rfl ?_
        refine r_iload (i := 7) C dX12_shares_368 rfl ?_
        refine rm_iald (k := 34) C dX12_shares_370 hM rfl rfl g101 ?_
        refine r_iconst (v := 2) C dX12_shares_371 (by decide) ?_
        obtain ⟨g111, E⟩ := gd_elim E
        refine r_callVs C v_X12_223 (z_of _ _ hM g111) dX12_shares_372 hM.1 (ci := 10) (by decide) rfl rfl (As := [_, _]) rfl rfl rfl (by first | exact Nat.le_refl _ | exact Nat.le_of_ble_eq_true rfl | omega) (Nat.le_of_ble_eq_true rfl) (by first | exact Nat.le_refl _ | exact Nat.le_of_ble_eq_true rfl | omega) (by first | exact Nat.le_refl _ | exact Nat.le_of_ble_eq_true rfl | omega) ?_
        obtain ⟨g113, E⟩ := gd_elim E
        refine rm_iast (k := 25) C dX12_shares_375 hM rfl rfl g113 ?_
        refine bnd_elim (P := fun (Z : MM) => wr X 0 0 376 [.ref m, .int x1, v2, .int x3, u4, u5, u6, .int x7, u8, u9] [] (pm m h Z)) E (fun S112 E => ?_)
        refine r_aload_n (i := 0) C dX12_shares_376 rfl rfl (by first | rfl | exact isR_rf _) ?_
        refine rm_ref (k := 35) C f_X12_105 dX12_shares_377 rfl rfl hM rfl ?_
        refine r_iload (i := 7) C dX12_shares_380 rfl ?_
        refine r_iconst (v := 1) C dX12_shares_382 (by decide) ?_
        refine rm_zast (k := 35) C dX12_shares_383 hM rfl rfl g101 (by first | exact Or.inl rfl | exact Or.inr rfl | assumption | exact b_canBe | exact b_in | exact b_isRule | exact b_isPart | exact b_isPartOf | (repeat' split) <;> first | exact Or.inl rfl | exact Or.inr rfl | assumption | exact b_canBe | exact b_in | exact b_isRule | exact b_isPart | exact b_isPartOf) ?_
        refine bnd_elim (P := fun (Z : MM) => wr X 0 0 384 [.ref m, .int x1, v2, .int x3, u4, u5, u6, .int x7, u8, u9] [] (pm m h Z)) E (fun S114 E => ?_)
        refine r_goto (tgt := 417) C dX12_shares_384 (by decide) ?_
        refine r_iinc1 (i := 7) C dX12_shares_417 rfl ?_
        refine r_goto (tgt := 332) C dX12_shares_420 (by decide) ?_
        exact ih _ _ _ _ _ _ _ E hK0
def m_shares_2 (x1 x2 : Int32) : Nat → Int32 → MM → Option (MM)
  | 0, _, _ => none
  | fu + 1, x3, S => if x3 = (0 : Int32) then (some S) else (m_shares_15 (fun p19 p20 => if p19 ≤ (0 : Int32) then (m_shares_2 x1 x2 fu (0 : Int32) S) else (if p20 ≤ (0 : Int32) then (m_shares_2 x1 x2 fu (0 : Int32) S) else (m_shares_99 (fun p44 => m_shares_152 (fun p87 S94 => m_shares_332 (fun S121 => m_shares_2 x1 x2 fu p87 S121) x1 p87 1000 (0 : Int32) S94) x1 p19 p20 1000 (0 : Int32) p44 (0 : Int32) S) S x1 p19 p20 1000 p19 (0 : Int32)))) S x1 1000 x2 (0 : Int32) (0 : Int32))
theorem z_shares_2 {X : Ctx} {m : Nat} {h : Hp} (C : Cx X yX12_shares cX12_shares 10 none [] 2 0 0) (hM : MW m h) {x1 x2 : Int32} {r : MM} (E0 : Ex X 0 0 (.inl (none, pm m h r))) : ∀ (fu : Nat) (x3 : Int32) (S : MM) (u4 u5 u6 u7 u8 u9 : Value) , m_shares_2 x1 x2 fu x3 S = some r → wr X 0 0 2 [.ref m, .int x1, .int x2, .int x3, u4, u5, u6, u7, u8, u9] [] (pm m h S) := by
  intro fu
  induction fu with
  | zero =>
    intro x3 S u4 u5 u6 u7 u8 u9 E 
    rw [m_shares_2] at E
    cases E
  | succ fu ih =>
    intro x3 S u4 u5 u6 u7 u8 u9 E 
    rw [m_shares_2] at E
    refine r_iload_n (i := 3) C dX12_shares_2 rfl rfl ?_
    refine r_if_eq (tgt := 426) C dX12_shares_3 (by decide) (fun c_3 => ?_) (fun c_3 => ?_)
    · have E := ite_t E c_3
      obtain rfl := Option.some.inj E
      exact r_vret C E0 dX12_shares_426 rfl (Nat.le_refl _) (Nat.le_refl _)
    · have E := ite_f E c_3
      refine r_iload_n (i := 2) C dX12_shares_6 rfl rfl ?_
      refine r_istore (i := 4) C dX12_shares_7 (Nat.le_of_ble_eq_true rfl) ?_
      refine r_iconst (v := 0) C dX12_shares_9 (by decide) ?_
      refine r_istore (i := 5) C dX12_shares_10 (Nat.le_of_ble_eq_true rfl) ?_
      refine r_iconst (v := 0) C dX12_shares_12 (by decide) ?_
      refine r_istore (i := 6) C dX12_shares_13 (Nat.le_of_ble_eq_true rfl) ?_
      refine z_shares_15 C hM E0 _ _ _ _ _ _ _ _ E (fun p19 p20 w21 w22 w23 w24 w25 E => ?_)
      refine r_iconst (v := 0) C dX12_shares_80 (by decide) ?_
      refine r_istore_n (i := 3) C dX12_shares_81 rfl (Nat.le_of_ble_eq_true rfl) ?_
      refine r_iload (i := 4) C dX12_shares_82 rfl ?_
      refine r_if_le (tgt := 423) C dX12_shares_84 (by decide) (fun c_84 => ?_) (fun c_84 => ?_)
      · have E := ite_t E c_84
        refine r_goto (tgt := 2) C dX12_shares_423 (by decide) ?_
        exact ih _ _ _ _ _ _ _ _ E
      · have E := ite_f E c_84
        refine r_iload (i := 5) C dX12_shares_87 rfl ?_
        refine r_if_le (tgt := 423) C dX12_shares_89 (by decide) (fun c_89 => ?_) (fun c_89 => ?_)
        · have E := ite_t E c_89
          refine r_goto (tgt := 2) C dX12_shares_423 (by decide) ?_
          exact ih _ _ _ _ _ _ _ _ E
        · have E := ite_f E c_89
          refine r_iload (i := 4) C dX12_shares_92 rfl ?_
          refine r_istore (i := 6) C dX12_shares_94 (Nat.le_of_ble_eq_true rfl) ?_
          refine r_iconst (v := 0) C dX12_shares_96 (by decide) ?_
          refine r_istore (i := 7) C dX12_shares_97 (Nat.le_of_ble_eq_true rfl) ?_
          refine z_shares_99 C hM E0 _ _ _ _ _ E (fun p44 w45 w46 w47 E => ?_)
          refine r_iconst (v := 0) C dX12_shares_149 (by decide) ?_
          refine r_istore (i := 7) C dX12_shares_150 (Nat.le_of_ble_eq_true rfl) ?_
          refine z_shares_152 C hM E0 _ _ _ _ _ _ _ E (fun p87 S94 w88 w89 w90 w91 w92 w93 E => ?_)
          refine r_iconst (v := 0) C dX12_shares_329 (by decide) ?_
          refine r_istore (i := 7) C dX12_shares_330 (Nat.le_of_ble_eq_true rfl) ?_
          refine z_shares_332 C hM E0 _ _ _ _ _ _ _ _ E (fun S121 w115 w116 w117 w118 w119 w120 E => ?_)
          refine r_goto (tgt := 2) C dX12_shares_423 (by decide) ?_
          exact ih _ _ _ _ _ _ _ _ E
def m_shares (S : MM) (a0 : Int32) (a1 : Int32) : Option (MM) := m_shares_2 a0 a1 1000 (1 : Int32) S
theorem z_shares (l : Launch) (G : Gl) {m : Nat} {h : Hp} (hM : MW m h) {S : MM} {a0 a1 : Int32} {r : MM} (E : m_shares S a0 a1 = some r) : MRw l G yX12_shares (.code yX12_shares cX12_shares 10 none) 2 0 0 [.ref m, .int a0, .int a1] (pm m h S) (.inl (none, pm m h r)) := by
  refine mr_of (by decide +kernel) (Nat.le_of_ble_eq_true rfl) (ct3 rfl rfl rfl) (fun X hG hl C E0 => ?_)
  subst hG hl
  rw [m_shares] at E
  refine r_iconst (v := 1) C dX12_shares_0 (by decide) ?_
  refine r_istore_n (i := 3) C dX12_shares_1 rfl (Nat.le_of_ble_eq_true rfl) ?_
  refine z_shares_2 C hM E0 _ _ _ _ _ _ _ _ _ E

