/-! ===== the model: findsHeight (by gen.py) ===== -/
def m_findsHeight_63 (K0 : Int32 → Int32 → Int32 → MM → Option (MM)) (x1 x2 x3 x4 : Int32) : Nat → Int32 → Int32 → Int32 → Int32 → Int32 → Int32 → MM → Option (MM)
  | 0, _, _, _, _, _, _, _ => none
  | fu + 1, x5, x6, x7, x8, x9, x10, S => if (S 3 0) ≤ x10 then (K0 x5 x7 x8 S) else (if ix x10 24 then if (S 5 (tn x10)) = x1 then (if (S 28 (tn x10)) = (0 : Int32) then (m_findsHeight_63 K0 x1 x2 x3 x4 fu x5 x6 x7 x8 x9 (x10 + 1) S) else (if m_of_g S x10 (3 : Int32) then bnd (m_of S x10 (3 : Int32)) fun p45 => (if ix (((4 : Int32) * x10) + (3 : Int32)) 96 then bnd (S 25 (tn (((4 : Int32) * x10) + (3 : Int32)))) fun p48 => (if x2 = (0 : Int32) then (bnd (if x9 = (0 : Int32) then p45 else if p45 ≤ x8 then x8 else p45) fun p118 => bnd (x5 + p118) fun p119 => (if ix ((4 : Int32) * x10) 96 then bnd (u2 S 25 (tn ((4 : Int32) * x10)) (0 : Int32)) fun S120 => (if ix (((4 : Int32) * x10) + (1 : Int32)) 96 then bnd (u2 S120 25 (tn (((4 : Int32) * x10) + (1 : Int32))) p119) fun S122 => (bnd (p119 + p48) fun p124 => (if m_of_g S122 x10 (4 : Int32) then bnd (m_of S122 x10 (4 : Int32)) fun p127 => (m_findsHeight_63 K0 x1 x2 x3 x4 fu p124 x6 x7 p127 (x9 + 1) (x10 + 1) S122) else none)) else none) else none)) else (if x2 = (2 : Int32) then (if ¬ x3 = 0 then if (x9 - x9 / x3 * x3) = (0 : Int32) then (bnd (x5 + x7) fun p96 => (if ix ((4 : Int32) * x10) 96 then bnd (u2 S 25 (tn ((4 : Int32) * x10)) (0 : Int32)) fun S97 => (if ix (((4 : Int32) * x10) + (1 : Int32)) 96 then bnd (u2 S97 25 (tn (((4 : Int32) * x10) + (1 : Int32))) (p96 + p45)) fun S99 => (if (x2 = (1 : Int32) → ix (((4 : Int32) * x10) + (2 : Int32)) 96) then bnd (if x2 = (1 : Int32) then S99 25 (tn (((4 : Int32) * x10) + (2 : Int32))) else (x4 / x3) + (if (x4 - x4 / x3 * x3) ≤ (x9 - x9 / x3 * x3) then (0 : Int32) else (1 : Int32))) fun p107 => bnd ((0 : Int32) + p107) fun p108 => (if m_of_g S99 x10 (4 : Int32) then bnd ((p45 + p48) + (m_of S99 x10 (4 : Int32))) fun p111 => (bnd (if p111 ≤ (0 : Int32) then (0 : Int32) else p111) fun p114 => (m_findsHeight_63 K0 x1 x2 x3 x4 fu p96 p108 p114 x8 (x9 + 1) (x10 + 1) S99)) else none) else none) else none) else none)) else (if ix ((4 : Int32) * x10) 96 then bnd (u2 S 25 (tn ((4 : Int32) * x10)) x6) fun S78 => (if ix (((4 : Int32) * x10) + (1 : Int32)) 96 then bnd (u2 S78 25 (tn (((4 : Int32) * x10) + (1 : Int32))) (x5 + p45)) fun S80 => (if (x2 = (1 : Int32) → ix (((4 : Int32) * x10) + (2 : Int32)) 96) then bnd (if x2 = (1 : Int32) then S80 25 (tn (((4 : Int32) * x10) + (2 : Int32))) else (x4 / x3) + (if (x4 - x4 / x3 * x3) ≤ (x9 - x9 / x3 * x3) then (0 : Int32) else (1 : Int32))) fun p88 => bnd (x6 + p88) fun p89 => (if m_of_g S80 x10 (4 : Int32) then bnd ((p45 + p48) + (m_of S80 x10 (4 : Int32))) fun p92 => (bnd (if p92 ≤ x7 then x7 else p92) fun p95 => (m_findsHeight_63 K0 x1 x2 x3 x4 fu x5 p89 p95 x8 (x9 + 1) (x10 + 1) S80)) else none) else none) else none) else none) else none) else (if ix ((4 : Int32) * x10) 96 then bnd (u2 S 25 (tn ((4 : Int32) * x10)) x6) fun S56 => (if ix (((4 : Int32) * x10) + (1 : Int32)) 96 then bnd (u2 S56 25 (tn (((4 : Int32) * x10) + (1 : Int32))) (x5 + p45)) fun S58 => (if ((x2 = (1 : Int32) → ix (((4 : Int32) * x10) + (2 : Int32)) 96) ∧ (¬ (x2 = (1 : Int32)) → ¬ x3 = 0)) then bnd (if x2 = (1 : Int32) then S58 25 (tn (((4 : Int32) * x10) + (2 : Int32))) else (x4 / x3) + (if (x4 - x4 / x3 * x3) ≤ (x9 - x9 / x3 * x3) then (0 : Int32) else (1 : Int32))) fun p67 => bnd (x6 + p67) fun p68 => (if m_of_g S58 x10 (4 : Int32) then bnd ((p45 + p48) + (m_of S58 x10 (4 : Int32))) fun p71 => (bnd (if p71 ≤ x7 then x7 else p71) fun p74 => (m_findsHeight_63 K0 x1 x2 x3 x4 fu x5 p68 p74 x8 (x9 + 1) (x10 + 1) S58)) else none) else none) else none) else none))) else none) else none)) else (m_findsHeight_63 K0 x1 x2 x3 x4 fu x5 x6 x7 x8 x9 (x10 + 1) S) else none)
theorem z_findsHeight_63 {X : Ctx} {m : Nat} {h : Hp} (C : Cx X yX12_findsHeight cX12_findsHeight 14 none [] 2 0 0) (hM : MW m h) {K0 : Int32 → Int32 → Int32 → MM → Option (MM)} {x1 x2 x3 x4 : Int32} {r : MM} (E0 : Ex X 0 0 (.inl (none, pm m h r))) : ∀ (fu : Nat) (x5 x6 x7 x8 x9 x10 : Int32) (S : MM) (u11 u12 u13 : Value) , m_findsHeight_63 K0 x1 x2 x3 x4 fu x5 x6 x7 x8 x9 x10 S = some r → (∀ (y5 y7 y8 : Int32) (S2 : MM) (u2 u3 u4 u6 u9 u10 u11 u12 u13 : Value) , K0 y5 y7 y8 S2 = some r → wr X 0 0 322 [.ref m, .int x1, u2, u3, u4, .int y5, u6, .int y7, .int y8, u9, u10, u11, u12, u13] [] (pm m h S2)) → wr X 0 0 63 [.ref m, .int x1, .int x2, .int x3, .int x4, .int x5, .int x6, .int x7, .int x8, .int x9, .int x10, u11, u12, u13] [] (pm m h S) := by
  intro fu
  induction fu with
  | zero =>
    intro x5 x6 x7 x8 x9 x10 S u11 u12 u13 E hK0
    rw [m_findsHeight_63] at E
    cases E
  | succ fu ih =>
    intro x5 x6 x7 x8 x9 x10 S u11 u12 u13 E hK0
    rw [m_findsHeight_63] at E
    refine r_iload (i := 10) C dX12_findsHeight_63 rfl ?_
    refine r_aload_n (i := 0) C dX12_findsHeight_65 rfl rfl (by first | rfl | exact isR_rf _) ?_
    refine rm_get (k := 3) C f_X12_16 dX12_findsHeight_66 rfl rfl hM rfl ?_
    refine r_ic_ge (tgt := 322) C dX12_findsHeight_69 (by decide) (fun c_69 => ?_) (fun c_69 => ?_)
    · have E := ite_t E c_69
      exact hK0 _ _ _ _ _ _ _ _ _ _ _ _ _ E
    · have E := ite_f E c_69
      refine r_aload_n (i := 0) C dX12_findsHeight_72 rfl rfl (by first | rfl | exact isR_rf _) ?_
      refine rm_ref (k := 5) C f_X12_23 dX12_findsHeight_73 rfl rfl hM rfl ?_
      refine r_iload (i := 10) C dX12_findsHeight_76 rfl ?_
      obtain ⟨g27, E⟩ := gd_elim E
      refine rm_iald (k := 5) C dX12_findsHeight_78 hM rfl rfl g27 ?_
      refine r_iload_n (i := 1) C dX12_findsHeight_79 rfl rfl ?_
      refine r_ic_ne (tgt := 316) C dX12_findsHeight_80 (by decide) (fun c_80 => ?_) (fun c_80 => ?_)
      · have E := ite_f E c_80
        refine r_iinc1 (i := 10) C dX12_findsHeight_316 rfl ?_
        refine r_goto (tgt := 63) C dX12_findsHeight_319 (by decide) ?_
        exact ih _ _ _ _ _ _ _ _ _ _ E hK0
      · have E := ite_t E c_80
        refine r_aload_n (i := 0) C dX12_findsHeight_83 rfl rfl (by first | rfl | exact isR_rf _) ?_
        refine rm_ref (k := 28) C f_X12_90 dX12_findsHeight_84 rfl rfl hM rfl ?_
        refine r_iload (i := 10) C dX12_findsHeight_87 rfl ?_
        refine rm_zald (k := 28) C dX12_findsHeight_89 hM rfl rfl g27 ?_
        refine r_if_eq (tgt := 316) C dX12_findsHeight_90 (by decide) (fun c_90 => ?_) (fun c_90 => ?_)
        · have E := ite_t E c_90
          refine r_iinc1 (i := 10) C dX12_findsHeight_316 rfl ?_
          refine r_goto (tgt := 63) C dX12_findsHeight_319 (by decide) ?_
          exact ih _ _ _ _ _ _ _ _ _ _ E hK0
        · have E := ite_f E c_90
          refine r_aload_n (i := 0) C dX12_findsHeight_93 rfl rfl (by first | rfl | exact isR_rf _) ?_
          refine r_iload (i := 10) C dX12_findsHeight_94 rfl ?_
          refine r_iconst (v := 3) C dX12_findsHeight_96 (by decide) ?_
          obtain ⟨g44, E⟩ := gd_elim E
          refine r_callVs C v_X12_223 (z_of _ _ hM g44) dX12_findsHeight_97 hM.1 (ci := 10) (by decide) rfl rfl (As := [_, _]) rfl rfl rfl (by first | exact Nat.le_refl _ | exact Nat.le_of_ble_eq_true rfl | omega) (Nat.le_of_ble_eq_true rfl) (by first | exact Nat.le_refl _ | exact Nat.le_of_ble_eq_true rfl | omega) (by first | exact Nat.le_refl _ | exact Nat.le_of_ble_eq_true rfl | omega) ?_
          refine bnd_elim (P := fun (z : Int32) => wr X 0 0 100 [.ref m, .int x1, .int x2, .int x3, .int x4, .int x5, .int x6, .int x7, .int x8, .int x9, .int x10, u11, u12, u13] [.int z] (pm m h S)) E (fun p45 E => ?_)
          refine r_istore (i := 11) C dX12_findsHeight_100 (Nat.le_of_ble_eq_true rfl) ?_
          refine r_aload_n (i := 0) C dX12_findsHeight_102 rfl rfl (by first | rfl | exact isR_rf _) ?_
          refine rm_ref (k := 25) C f_X12_81 dX12_findsHeight_103 rfl rfl hM rfl ?_
          refine r_iconst (v := 4) C dX12_findsHeight_106 (by decide) ?_
          refine r_iload (i := 10) C dX12_findsHeight_107 rfl ?_
          refine r_imul C dX12_findsHeight_109 ?_
          refine r_iconst (v := 3) C dX12_findsHeight_110 (by decide) ?_
          refine r_iadd C dX12_findsHeight_111 ?_
          obtain ⟨g47, E⟩ := gd_elim E
          refine rm_iald (k := 25) C dX12_findsHeight_112 hM rfl rfl g47 ?_
          refine bnd_elim (P := fun (z : Int32) => wr X 0 0 113 [.ref m, .int x1, .int x2, .int x3, .int x4, .int x5, .int x6, .int x7, .int x8, .int x9, .int x10, .int p45, u12, u13] [.int z] (pm m h S)) E (fun p48 E => ?_)
          refine r_istore (i := 12) C dX12_findsHeight_113 (Nat.le_of_ble_eq_true rfl) ?_
          refine r_iload_n (i := 2) C dX12_findsHeight_115 rfl rfl ?_
          refine r_if_ne (tgt := 185) C dX12_findsHeight_116 (by decide) (fun c_116 => ?_) (fun c_116 => ?_)
          · have E := ite_f E c_116
            refine r_iload_n (i := 2) C dX12_findsHeight_185 rfl rfl ?_
            refine r_iconst (v := 2) C dX12_findsHeight_186 (by decide) ?_
            refine r_ic_ne (tgt := 210) C dX12_findsHeight_187 (by decide) (fun c_187 => ?_) (fun c_187 => ?_)
            · have E := ite_f E c_187
              refine r_aload_n (i := 0) C dX12_findsHeight_210 rfl rfl (by first | rfl | exact isR_rf _) ?_
              refine rm_ref (k := 25) C f_X12_81 dX12_findsHeight_211 rfl rfl hM rfl ?_
              refine r_iconst (v := 4) C dX12_findsHeight_214 (by decide) ?_
              refine r_iload (i := 10) C dX12_findsHeight_215 rfl ?_
              refine r_imul C dX12_findsHeight_217 ?_
              refine r_iload (i := 6) C dX12_findsHeight_218 rfl ?_
              obtain ⟨g57, E⟩ := gd_elim E
              refine rm_iast (k := 25) C dX12_findsHeight_220 hM rfl rfl g57 ?_
              refine bnd_elim (P := fun (Z : MM) => wr X 0 0 221 [.ref m, .int x1, .int x2, .int x3, .int x4, .int x5, .int x6, .int x7, .int x8, .int x9, .int x10, .int p45, .int p48, u13] [] (pm m h Z)) E (fun S56 E => ?_)
              refine r_aload_n (i := 0) C dX12_findsHeight_221 rfl rfl (by first | rfl | exact isR_rf _) ?_
              refine rm_ref (k := 25) C f_X12_81 dX12_findsHeight_222 rfl rfl hM rfl ?_
              refine r_iconst (v := 4) C dX12_findsHeight_225 (by decide) ?_
              refine r_iload (i := 10) C dX12_findsHeight_226 rfl ?_
              refine r_imul C dX12_findsHeight_228 ?_
              refine r_iconst (v := 1) C dX12_findsHeight_229 (by decide) ?_
              refine r_iadd C dX12_findsHeight_230 ?_
              refine r_iload (i := 5) C dX12_findsHeight_231 rfl ?_
              refine r_iload (i := 11) C dX12_findsHeight_233 rfl ?_
              refine r_iadd C dX12_findsHeight_235 ?_
              obtain ⟨g59, E⟩ := gd_elim E
              refine rm_iast (k := 25) C dX12_findsHeight_236 hM rfl rfl g59 ?_
              refine bnd_elim (P := fun (Z : MM) => wr X 0 0 237 [.ref m, .int x1, .int x2, .int x3, .int x4, .int x5, .int x6, .int x7, .int x8, .int x9, .int x10, .int p45, .int p48, u13] [] (pm m h Z)) E (fun S58 E => ?_)
              refine r_iload (i := 6) C dX12_findsHeight_237 rfl ?_
              refine r_iload_n (i := 2) C dX12_findsHeight_239 rfl rfl ?_
              refine r_iconst (v := 1) C dX12_findsHeight_240 (by decide) ?_
              obtain ⟨g65, E⟩ := gd_elim E
              have J66 : ∀ (u : Unit), wr X 0 0 279 [.ref m, .int x1, .int x2, .int x3, .int x4, .int x5, .int x6, .int x7, .int x8, .int x9, .int x10, .int p45, .int p48, u13] [.int (if x2 = (1 : Int32) then S58 25 (tn (((4 : Int32) * x10) + (2 : Int32))) else (x4 / x3) + (if (x4 - x4 / x3 * x3) ≤ (x9 - x9 / x3 * x3) then (0 : Int32) else (1 : Int32))), .int x6] (pm m h S58) := by
                intro u
                refine bnd_elim (P := fun (z : Int32) => wr X 0 0 279 [.ref m, .int x1, .int x2, .int x3, .int x4, .int x5, .int x6, .int x7, .int x8, .int x9, .int x10, .int p45, .int p48, u13] [.int z, .int x6] (pm m h S58)) E (fun p67 E => ?_)
                refine r_iadd C dX12_findsHeight_279 ?_
                refine bnd_elim (P := fun (z : Int32) => wr X 0 0 280 [.ref m, .int x1, .int x2, .int x3, .int x4, .int x5, .int x6, .int x7, .int x8, .int x9, .int x10, .int p45, .int p48, u13] [.int z] (pm m h S58)) E (fun p68 E => ?_)
                refine r_istore (i := 6) C dX12_findsHeight_280 (Nat.le_of_ble_eq_true rfl) ?_
                refine r_iload (i := 11) C dX12_findsHeight_282 rfl ?_
                refine r_iload (i := 12) C dX12_findsHeight_284 rfl ?_
                refine r_iadd C dX12_findsHeight_286 ?_
                refine r_aload_n (i := 0) C dX12_findsHeight_287 rfl rfl (by first | rfl | exact isR_rf _) ?_
                refine r_iload (i := 10) C dX12_findsHeight_288 rfl ?_
                refine r_iconst (v := 4) C dX12_findsHeight_290 (by decide) ?_
                obtain ⟨g70, E⟩ := gd_elim E
                refine r_callVs C v_X12_223 (z_of _ _ hM g70) dX12_findsHeight_291 hM.1 (ci := 10) (by decide) rfl rfl (As := [_, _]) rfl rfl rfl (by first | exact Nat.le_refl _ | exact Nat.le_of_ble_eq_true rfl | omega) (Nat.le_of_ble_eq_true rfl) (by first | exact Nat.le_refl _ | exact Nat.le_of_ble_eq_true rfl | omega) (by first | exact Nat.le_refl _ | exact Nat.le_of_ble_eq_true rfl | omega) ?_
                refine r_iadd C dX12_findsHeight_294 ?_
                refine bnd_elim (P := fun (z : Int32) => wr X 0 0 295 [.ref m, .int x1, .int x2, .int x3, .int x4, .int x5, .int p68, .int x7, .int x8, .int x9, .int x10, .int p45, .int p48, u13] [.int z] (pm m h S58)) E (fun p71 E => ?_)
                refine r_istore (i := 13) C dX12_findsHeight_295 (Nat.le_of_ble_eq_true rfl) ?_
                refine r_iload (i := 13) C dX12_findsHeight_297 rfl ?_
                refine r_iload (i := 7) C dX12_findsHeight_299 rfl ?_
                have J73 : ∀ (u : Unit), wr X 0 0 311 [.ref m, .int x1, .int x2, .int x3, .int x4, .int x5, .int p68, .int x7, .int x8, .int x9, .int x10, .int p45, .int p48, .int p71] [.int (if p71 ≤ x7 then x7 else p71)] (pm m h S58) := by
                  intro u
                  refine bnd_elim (P := fun (z : Int32) => wr X 0 0 311 [.ref m, .int x1, .int x2, .int x3, .int x4, .int x5, .int p68, .int x7, .int x8, .int x9, .int x10, .int p45, .int p48, .int p71] [.int z] (pm m h S58)) E (fun p74 E => ?_)
                  refine r_istore (i := 7) C dX12_findsHeight_311 (Nat.le_of_ble_eq_true rfl) ?_
                  refine r_iinc1 (i := 9) C dX12_findsHeight_313 rfl ?_
                  refine r_iinc1 (i := 10) C dX12_findsHeight_316 rfl ?_
                  refine r_goto (tgt := 63) C dX12_findsHeight_319 (by decide) ?_
                  exact ih _ _ _ _ _ _ _ _ _ _ E hK0
                refine r_ic_le (tgt := 309) C dX12_findsHeight_301 (by decide) (fun c_301_k72 => ?_) (fun c_301_k72 => ?_)
                · refine r_iload (i := 7) C dX12_findsHeight_309 rfl ?_
                  first | exact (J73  ()) | (simp only [if_pos c_301_k72] at J73; exact (J73  ()))
                · refine r_iload (i := 13) C dX12_findsHeight_304 rfl ?_
                  refine r_goto (tgt := 311) C dX12_findsHeight_306 (by decide) ?_
                  first | exact (J73  ()) | (simp only [if_neg c_301_k72] at J73; exact (J73  ()))
              refine r_ic_ne (tgt := 258) C dX12_findsHeight_241 (by decide) (fun c_241_k60 => ?_) (fun c_241_k60 => ?_)
              · refine r_iload (i := 4) C dX12_findsHeight_258 rfl ?_
                refine r_iload_n (i := 3) C dX12_findsHeight_260 rfl rfl ?_
                refine r_idiv C dX12_findsHeight_261 (g65.2 c_241_k60) ?_
                refine r_iload (i := 9) C dX12_findsHeight_262 rfl ?_
                refine r_iload_n (i := 3) C dX12_findsHeight_264 rfl rfl ?_
                refine r_irem C dX12_findsHeight_265 (g65.2 c_241_k60) ?_
                refine r_iload (i := 4) C dX12_findsHeight_266 rfl ?_
                refine r_iload_n (i := 3) C dX12_findsHeight_268 rfl rfl ?_
                refine r_irem C dX12_findsHeight_269 (g65.2 c_241_k60) ?_
                have J64 : ∀ (u : Unit), wr X 0 0 278 [.ref m, .int x1, .int x2, .int x3, .int x4, .int x5, .int x6, .int x7, .int x8, .int x9, .int x10, .int p45, .int p48, u13] [.int (if (x4 - x4 / x3 * x3) ≤ (x9 - x9 / x3 * x3) then (0 : Int32) else (1 : Int32)), .int (x4 / x3), .int x6] (pm m h S58) := by
                  intro u
                  refine r_iadd C dX12_findsHeight_278 ?_
                  first | exact (J66  ()) | (simp only [if_neg c_241_k60] at J66; exact (J66  ()))
                refine r_ic_ge (tgt := 277) C dX12_findsHeight_270 (by decide) (fun c_270_k63 => ?_) (fun c_270_k63 => ?_)
                · refine r_iconst (v := 0) C dX12_findsHeight_277 (by decide) ?_
                  first | exact (J64  ()) | (simp only [if_pos c_270_k63] at J64; exact (J64  ()))
                · refine r_iconst (v := 1) C dX12_findsHeight_273 (by decide) ?_
                  refine r_goto (tgt := 278) C dX12_findsHeight_274 (by decide) ?_
                  first | exact (J64  ()) | (simp only [if_neg c_270_k63] at J64; exact (J64  ()))
              · refine r_aload_n (i := 0) C dX12_findsHeight_244 rfl rfl (by first | rfl | exact isR_rf _) ?_
                refine rm_ref (k := 25) C f_X12_81 dX12_findsHeight_245 rfl rfl hM rfl ?_
                refine r_iconst (v := 4) C dX12_findsHeight_248 (by decide) ?_
                refine r_iload (i := 10) C dX12_findsHeight_249 rfl ?_
                refine r_imul C dX12_findsHeight_251 ?_
                refine r_iconst (v := 2) C dX12_findsHeight_252 (by decide) ?_
                refine r_iadd C dX12_findsHeight_253 ?_
                refine rm_iald (k := 25) C dX12_findsHeight_254 hM rfl rfl (g65.1 c_241_k60) ?_
                refine r_goto (tgt := 279) C dX12_findsHeight_255 (by decide) ?_
                first | exact (J66  ()) | (simp only [if_pos c_241_k60] at J66; exact (J66  ()))
            · have E := ite_t E c_187
              refine r_iload (i := 9) C dX12_findsHeight_190 rfl ?_
              refine r_iload_n (i := 3) C dX12_findsHeight_192 rfl rfl ?_
              obtain ⟨g76, E⟩ := gd_elim E
              refine r_irem C dX12_findsHeight_193 g76 ?_
              refine r_if_ne (tgt := 210) C dX12_findsHeight_194 (by decide) (fun c_194 => ?_) (fun c_194 => ?_)
              · have E := ite_f E c_194
                refine r_aload_n (i := 0) C dX12_findsHeight_210 rfl rfl (by first | rfl | exact isR_rf _) ?_
                refine rm_ref (k := 25) C f_X12_81 dX12_findsHeight_211 rfl rfl hM rfl ?_
                refine r_iconst (v := 4) C dX12_findsHeight_214 (by decide) ?_
                refine r_iload (i := 10) C dX12_findsHeight_215 rfl ?_
                refine r_imul C dX12_findsHeight_217 ?_
                refine r_iload (i := 6) C dX12_findsHeight_218 rfl ?_
                obtain ⟨g79, E⟩ := gd_elim E
                refine rm_iast (k := 25) C dX12_findsHeight_220 hM rfl rfl g79 ?_
                refine bnd_elim (P := fun (Z : MM) => wr X 0 0 221 [.ref m, .int x1, .int x2, .int x3, .int x4, .int x5, .int x6, .int x7, .int x8, .int x9, .int x10, .int p45, .int p48, u13] [] (pm m h Z)) E (fun S78 E => ?_)
                refine r_aload_n (i := 0) C dX12_findsHeight_221 rfl rfl (by first | rfl | exact isR_rf _) ?_
                refine rm_ref (k := 25) C f_X12_81 dX12_findsHeight_222 rfl rfl hM rfl ?_
                refine r_iconst (v := 4) C dX12_findsHeight_225 (by decide) ?_
                refine r_iload (i := 10) C dX12_findsHeight_226 rfl ?_
                refine r_imul C dX12_findsHeight_228 ?_
                refine r_iconst (v := 1) C dX12_findsHeight_229 (by decide) ?_
                refine r_iadd C dX12_findsHeight_230 ?_
                refine r_iload (i := 5) C dX12_findsHeight_231 rfl ?_
                refine r_iload (i := 11) C dX12_findsHeight_233 rfl ?_
                refine r_iadd C dX12_findsHeight_235 ?_
                obtain ⟨g81, E⟩ := gd_elim E
                refine rm_iast (k := 25) C dX12_findsHeight_236 hM rfl rfl g81 ?_
                refine bnd_elim (P := fun (Z : MM) => wr X 0 0 237 [.ref m, .int x1, .int x2, .int x3, .int x4, .int x5, .int x6, .int x7, .int x8, .int x9, .int x10, .int p45, .int p48, u13] [] (pm m h Z)) E (fun S80 E => ?_)
                refine r_iload (i := 6) C dX12_findsHeight_237 rfl ?_
                refine r_iload_n (i := 2) C dX12_findsHeight_239 rfl rfl ?_
                refine r_iconst (v := 1) C dX12_findsHeight_240 (by decide) ?_
                obtain ⟨g86, E⟩ := gd_elim E
                have J87 : ∀ (u : Unit), wr X 0 0 279 [.ref m, .int x1, .int x2, .int x3, .int x4, .int x5, .int x6, .int x7, .int x8, .int x9, .int x10, .int p45, .int p48, u13] [.int (if x2 = (1 : Int32) then S80 25 (tn (((4 : Int32) * x10) + (2 : Int32))) else (x4 / x3) + (if (x4 - x4 / x3 * x3) ≤ (x9 - x9 / x3 * x3) then (0 : Int32) else (1 : Int32))), .int x6] (pm m h S80) := by
                  intro u
                  refine bnd_elim (P := fun (z : Int32) => wr X 0 0 279 [.ref m, .int x1, .int x2, .int x3, .int x4, .int x5, .int x6, .int x7, .int x8, .int x9, .int x10, .int p45, .int p48, u13] [.int z, .int x6] (pm m h S80)) E (fun p88 E => ?_)
                  refine r_iadd C dX12_findsHeight_279 ?_
                  refine bnd_elim (P := fun (z : Int32) => wr X 0 0 280 [.ref m, .int x1, .int x2, .int x3, .int x4, .int x5, .int x6, .int x7, .int x8, .int x9, .int x10, .int p45, .int p48, u13] [.int z] (pm m h S80)) E (fun p89 E => ?_)
                  refine r_istore (i := 6) C dX12_findsHeight_280 (Nat.le_of_ble_eq_true rfl) ?_
                  refine r_iload (i := 11) C dX12_findsHeight_282 rfl ?_
                  refine r_iload (i := 12) C dX12_findsHeight_284 rfl ?_
                  refine r_iadd C dX12_findsHeight_286 ?_
                  refine r_aload_n (i := 0) C dX12_findsHeight_287 rfl rfl (by first | rfl | exact isR_rf _) ?_
                  refine r_iload (i := 10) C dX12_findsHeight_288 rfl ?_
                  refine r_iconst (v := 4) C dX12_findsHeight_290 (by decide) ?_
                  obtain ⟨g91, E⟩ := gd_elim E
                  refine r_callVs C v_X12_223 (z_of _ _ hM g91) dX12_findsHeight_291 hM.1 (ci := 10) (by decide) rfl rfl (As := [_, _]) rfl rfl rfl (by first | exact Nat.le_refl _ | exact Nat.le_of_ble_eq_true rfl | omega) (Nat.le_of_ble_eq_true rfl) (by first | exact Nat.le_refl _ | exact Nat.le_of_ble_eq_true rfl | omega) (by first | exact Nat.le_refl _ | exact Nat.le_of_ble_eq_true rfl | omega) ?_
                  refine r_iadd C dX12_findsHeight_294 ?_
                  refine bnd_elim (P := fun (z : Int32) => wr X 0 0 295 [.ref m, .int x1, .int x2, .int x3, .int x4, .int x5, .int p89, .int x7, .int x8, .int x9, .int x10, .int p45, .int p48, u13] [.int z] (pm m h S80)) E (fun p92 E => ?_)
                  refine r_istore (i := 13) C dX12_findsHeight_295 (Nat.le_of_ble_eq_true rfl) ?_
                  refine r_iload (i := 13) C dX12_findsHeight_297 rfl ?_
                  refine r_iload (i := 7) C dX12_findsHeight_299 rfl ?_
                  have J94 : ∀ (u : Unit), wr X 0 0 311 [.ref m, .int x1, .int x2, .int x3, .int x4, .int x5, .int p89, .int x7, .int x8, .int x9, .int x10, .int p45, .int p48, .int p92] [.int (if p92 ≤ x7 then x7 else p92)] (pm m h S80) := by
                    intro u
                    refine bnd_elim (P := fun (z : Int32) => wr X 0 0 311 [.ref m, .int x1, .int x2, .int x3, .int x4, .int x5, .int p89, .int x7, .int x8, .int x9, .int x10, .int p45, .int p48, .int p92] [.int z] (pm m h S80)) E (fun p95 E => ?_)
                    refine r_istore (i := 7) C dX12_findsHeight_311 (Nat.le_of_ble_eq_true rfl) ?_
                    refine r_iinc1 (i := 9) C dX12_findsHeight_313 rfl ?_
                    refine r_iinc1 (i := 10) C dX12_findsHeight_316 rfl ?_
                    refine r_goto (tgt := 63) C dX12_findsHeight_319 (by decide) ?_
                    exact ih _ _ _ _ _ _ _ _ _ _ E hK0
                  refine r_ic_le (tgt := 309) C dX12_findsHeight_301 (by decide) (fun c_301_k93 => ?_) (fun c_301_k93 => ?_)
                  · refine r_iload (i := 7) C dX12_findsHeight_309 rfl ?_
                    first | exact (J94  ()) | (simp only [if_pos c_301_k93] at J94; exact (J94  ()))
                  · refine r_iload (i := 13) C dX12_findsHeight_304 rfl ?_
                    refine r_goto (tgt := 311) C dX12_findsHeight_306 (by decide) ?_
                    first | exact (J94  ()) | (simp only [if_neg c_301_k93] at J94; exact (J94  ()))
                refine r_ic_ne (tgt := 258) C dX12_findsHeight_241 (by decide) (fun c_241_k82 => ?_) (fun c_241_k82 => ?_)
                · refine r_iload (i := 4) C dX12_findsHeight_258 rfl ?_
                  refine r_iload_n (i := 3) C dX12_findsHeight_260 rfl rfl ?_
                  refine r_idiv C dX12_findsHeight_261 g76 ?_
                  refine r_iload (i := 9) C dX12_findsHeight_262 rfl ?_
                  refine r_iload_n (i := 3) C dX12_findsHeight_264 rfl rfl ?_
                  refine r_irem C dX12_findsHeight_265 g76 ?_
                  refine r_iload (i := 4) C dX12_findsHeight_266 rfl ?_
                  refine r_iload_n (i := 3) C dX12_findsHeight_268 rfl rfl ?_
                  refine r_irem C dX12_findsHeight_269 g76 ?_
                  have J85 : ∀ (u : Unit), wr X 0 0 278 [.ref m, .int x1, .int x2, .int x3, .int x4, .int x5, .int x6, .int x7, .int x8, .int x9, .int x10, .int p45, .int p48, u13] [.int (if (x4 - x4 / x3 * x3) ≤ (x9 - x9 / x3 * x3) then (0 : Int32) else (1 : Int32)), .int (x4 / x3), .int x6] (pm m h S80) := by
                    intro u
                    refine r_iadd C dX12_findsHeight_278 ?_
                    first | exact (J87  ()) | (simp only [if_neg c_241_k82] at J87; exact (J87  ()))
                  refine r_ic_ge (tgt := 277) C dX12_findsHeight_270 (by decide) (fun c_270_k84 => ?_) (fun c_270_k84 => ?_)
                  · refine r_iconst (v := 0) C dX12_findsHeight_277 (by decide) ?_
                    first | exact (J85  ()) | (simp only [if_pos c_270_k84] at J85; exact (J85  ()))
                  · refine r_iconst (v := 1) C dX12_findsHeight_273 (by decide) ?_
                    refine r_goto (tgt := 278) C dX12_findsHeight_274 (by decide) ?_
                    first | exact (J85  ()) | (simp only [if_neg c_270_k84] at J85; exact (J85  ()))
                · refine r_aload_n (i := 0) C dX12_findsHeight_244 rfl rfl (by first | rfl | exact isR_rf _) ?_
                  refine rm_ref (k := 25) C f_X12_81 dX12_findsHeight_245 rfl rfl hM rfl ?_
                  refine r_iconst (v := 4) C dX12_findsHeight_248 (by decide) ?_
                  refine r_iload (i := 10) C dX12_findsHeight_249 rfl ?_
                  refine r_imul C dX12_findsHeight_251 ?_
                  refine r_iconst (v := 2) C dX12_findsHeight_252 (by decide) ?_
                  refine r_iadd C dX12_findsHeight_253 ?_
                  refine rm_iald (k := 25) C dX12_findsHeight_254 hM rfl rfl (g86 c_241_k82) ?_
                  refine r_goto (tgt := 279) C dX12_findsHeight_255 (by decide) ?_
                  first | exact (J87  ()) | (simp only [if_pos c_241_k82] at J87; exact (J87  ()))
              · have E := ite_t E c_194
                refine r_iload (i := 5) C dX12_findsHeight_197 rfl ?_
                refine r_iload (i := 7) C dX12_findsHeight_199 rfl ?_
                refine r_iadd C dX12_findsHeight_201 ?_
                refine bnd_elim (P := fun (z : Int32) => wr X 0 0 202 [.ref m, .int x1, .int x2, .int x3, .int x4, .int x5, .int x6, .int x7, .int x8, .int x9, .int x10, .int p45, .int p48, u13] [.int z] (pm m h S)) E (fun p96 E => ?_)
                refine r_istore (i := 5) C dX12_findsHeight_202 (Nat.le_of_ble_eq_true rfl) ?_
                refine r_iconst (v := 0) C dX12_findsHeight_204 (by decide) ?_
                refine r_istore (i := 7) C dX12_findsHeight_205 (Nat.le_of_ble_eq_true rfl) ?_
                refine r_iconst (v := 0) C dX12_findsHeight_207 (by decide) ?_
                refine r_istore (i := 6) C dX12_findsHeight_208 (Nat.le_of_ble_eq_true rfl) ?_
                refine r_aload_n (i := 0) C dX12_findsHeight_210 rfl rfl (by first | rfl | exact isR_rf _) ?_
                refine rm_ref (k := 25) C f_X12_81 dX12_findsHeight_211 rfl rfl hM rfl ?_
                refine r_iconst (v := 4) C dX12_findsHeight_214 (by decide) ?_
                refine r_iload (i := 10) C dX12_findsHeight_215 rfl ?_
                refine r_imul C dX12_findsHeight_217 ?_
                refine r_iload (i := 6) C dX12_findsHeight_218 rfl ?_
                obtain ⟨g98, E⟩ := gd_elim E
                refine rm_iast (k := 25) C dX12_findsHeight_220 hM rfl rfl g98 ?_
                refine bnd_elim (P := fun (Z : MM) => wr X 0 0 221 [.ref m, .int x1, .int x2, .int x3, .int x4, .int p96, .int (0 : Int32), .int (0 : Int32), .int x8, .int x9, .int x10, .int p45, .int p48, u13] [] (pm m h Z)) E (fun S97 E => ?_)
                refine r_aload_n (i := 0) C dX12_findsHeight_221 rfl rfl (by first | rfl | exact isR_rf _) ?_
                refine rm_ref (k := 25) C f_X12_81 dX12_findsHeight_222 rfl rfl hM rfl ?_
                refine r_iconst (v := 4) C dX12_findsHeight_225 (by decide) ?_
                refine r_iload (i := 10) C dX12_findsHeight_226 rfl ?_
                refine r_imul C dX12_findsHeight_228 ?_
                refine r_iconst (v := 1) C dX12_findsHeight_229 (by decide) ?_
                refine r_iadd C dX12_findsHeight_230 ?_
                refine r_iload (i := 5) C dX12_findsHeight_231 rfl ?_
                refine r_iload (i := 11) C dX12_findsHeight_233 rfl ?_
                refine r_iadd C dX12_findsHeight_235 ?_
                obtain ⟨g100, E⟩ := gd_elim E
                refine rm_iast (k := 25) C dX12_findsHeight_236 hM rfl rfl g100 ?_
                refine bnd_elim (P := fun (Z : MM) => wr X 0 0 237 [.ref m, .int x1, .int x2, .int x3, .int x4, .int p96, .int (0 : Int32), .int (0 : Int32), .int x8, .int x9, .int x10, .int p45, .int p48, u13] [] (pm m h Z)) E (fun S99 E => ?_)
                refine r_iload (i := 6) C dX12_findsHeight_237 rfl ?_
                refine r_iload_n (i := 2) C dX12_findsHeight_239 rfl rfl ?_
                refine r_iconst (v := 1) C dX12_findsHeight_240 (by decide) ?_
                obtain ⟨g105, E⟩ := gd_elim E
                have J106 : ∀ (u : Unit), wr X 0 0 279 [.ref m, .int x1, .int x2, .int x3, .int x4, .int p96, .int (0 : Int32), .int (0 : Int32), .int x8, .int x9, .int x10, .int p45, .int p48, u13] [.int (if x2 = (1 : Int32) then S99 25 (tn (((4 : Int32) * x10) + (2 : Int32))) else (x4 / x3) + (if (x4 - x4 / x3 * x3) ≤ (x9 - x9 / x3 * x3) then (0 : Int32) else (1 : Int32))), .int (0 : Int32)] (pm m h S99) := by
                  intro u
                  refine bnd_elim (P := fun (z : Int32) => wr X 0 0 279 [.ref m, .int x1, .int x2, .int x3, .int x4, .int p96, .int (0 : Int32), .int (0 : Int32), .int x8, .int x9, .int x10, .int p45, .int p48, u13] [.int z, .int (0 : Int32)] (pm m h S99)) E (fun p107 E => ?_)
                  refine r_iadd C dX12_findsHeight_279 ?_
                  refine bnd_elim (P := fun (z : Int32) => wr X 0 0 280 [.ref m, .int x1, .int x2, .int x3, .int x4, .int p96, .int (0 : Int32), .int (0 : Int32), .int x8, .int x9, .int x10, .int p45, .int p48, u13] [.int z] (pm m h S99)) E (fun p108 E => ?_)
                  refine r_istore (i := 6) C dX12_findsHeight_280 (Nat.le_of_ble_eq_true rfl) ?_
                  refine r_iload (i := 11) C dX12_findsHeight_282 rfl ?_
                  refine r_iload (i := 12) C dX12_findsHeight_284 rfl ?_
                  refine r_iadd C dX12_findsHeight_286 ?_
                  refine r_aload_n (i := 0) C dX12_findsHeight_287 rfl rfl (by first | rfl | exact isR_rf _) ?_
                  refine r_iload (i := 10) C dX12_findsHeight_288 rfl ?_
                  refine r_iconst (v := 4) C dX12_findsHeight_290 (by decide) ?_
                  obtain ⟨g110, E⟩ := gd_elim E
                  refine r_callVs C v_X12_223 (z_of _ _ hM g110) dX12_findsHeight_291 hM.1 (ci := 10) (by decide) rfl rfl (As := [_, _]) rfl rfl rfl (by first | exact Nat.le_refl _ | exact Nat.le_of_ble_eq_true rfl | omega) (Nat.le_of_ble_eq_true rfl) (by first | exact Nat.le_refl _ | exact Nat.le_of_ble_eq_true rfl | omega) (by first | exact Nat.le_refl _ | exact Nat.le_of_ble_eq_true rfl | omega) ?_
                  refine r_iadd C dX12_findsHeight_294 ?_
                  refine bnd_elim (P := fun (z : Int32) => wr X 0 0 295 [.ref m, .int x1, .int x2, .int x3, .int x4, .int p96, .int p108, .int (0 : Int32), .int x8, .int x9, .int x10, .int p45, .int p48, u13] [.int z] (pm m h S99)) E (fun p111 E => ?_)
                  refine r_istore (i := 13) C dX12_findsHeight_295 (Nat.le_of_ble_eq_true rfl) ?_
                  refine r_iload (i := 13) C dX12_findsHeight_297 rfl ?_
                  refine r_iload (i := 7) C dX12_findsHeight_299 rfl ?_
                  have J113 : ∀ (u : Unit), wr X 0 0 311 [.ref m, .int x1, .int x2, .int x3, .int x4, .int p96, .int p108, .int (0 : Int32), .int x8, .int x9, .int x10, .int p45, .int p48, .int p111] [.int (if p111 ≤ (0 : Int32) then (0 : Int32) else p111)] (pm m h S99) := by
                    intro u
                    refine bnd_elim (P := fun (z : Int32) => wr X 0 0 311 [.ref m, .int x1, .int x2, .int x3, .int x4, .int p96, .int p108, .int (0 : Int32), .int x8, .int x9, .int x10, .int p45, .int p48, .int p111] [.int z] (pm m h S99)) E (fun p114 E => ?_)
                    refine r_istore (i := 7) C dX12_findsHeight_311 (Nat.le_of_ble_eq_true rfl) ?_
                    refine r_iinc1 (i := 9) C dX12_findsHeight_313 rfl ?_
                    refine r_iinc1 (i := 10) C dX12_findsHeight_316 rfl ?_
                    refine r_goto (tgt := 63) C dX12_findsHeight_319 (by decide) ?_
                    exact ih _ _ _ _ _ _ _ _ _ _ E hK0
                  refine r_ic_le (tgt := 309) C dX12_findsHeight_301 (by decide) (fun c_301_k112 => ?_) (fun c_301_k112 => ?_)
                  · refine r_iload (i := 7) C dX12_findsHeight_309 rfl ?_
                    first | exact (J113  ()) | (simp only [if_pos c_301_k112] at J113; exact (J113  ()))
                  · refine r_iload (i := 13) C dX12_findsHeight_304 rfl ?_
                    refine r_goto (tgt := 311) C dX12_findsHeight_306 (by decide) ?_
                    first | exact (J113  ()) | (simp only [if_neg c_301_k112] at J113; exact (J113  ()))
                refine r_ic_ne (tgt := 258) C dX12_findsHeight_241 (by decide) (fun c_241_k101 => ?_) (fun c_241_k101 => ?_)
                · refine r_iload (i := 4) C dX12_findsHeight_258 rfl ?_
                  refine r_iload_n (i := 3) C dX12_findsHeight_260 rfl rfl ?_
                  refine r_idiv C dX12_findsHeight_261 g76 ?_
                  refine r_iload (i := 9) C dX12_findsHeight_262 rfl ?_
                  refine r_iload_n (i := 3) C dX12_findsHeight_264 rfl rfl ?_
                  refine r_irem C dX12_findsHeight_265 g76 ?_
                  refine r_iload (i := 4) C dX12_findsHeight_266 rfl ?_
                  refine r_iload_n (i := 3) C dX12_findsHeight_268 rfl rfl ?_
                  refine r_irem C dX12_findsHeight_269 g76 ?_
                  have J104 : ∀ (u : Unit), wr X 0 0 278 [.ref m, .int x1, .int x2, .int x3, .int x4, .int p96, .int (0 : Int32), .int (0 : Int32), .int x8, .int x9, .int x10, .int p45, .int p48, u13] [.int (if (x4 - x4 / x3 * x3) ≤ (x9 - x9 / x3 * x3) then (0 : Int32) else (1 : Int32)), .int (x4 / x3), .int (0 : Int32)] (pm m h S99) := by
                    intro u
                    refine r_iadd C dX12_findsHeight_278 ?_
                    first | exact (J106  ()) | (simp only [if_neg c_241_k101] at J106; exact (J106  ()))
                  refine r_ic_ge (tgt := 277) C dX12_findsHeight_270 (by decide) (fun c_270_k103 => ?_) (fun c_270_k103 => ?_)
                  · refine r_iconst (v := 0) C dX12_findsHeight_277 (by decide) ?_
                    first | exact (J104  ()) | (simp only [if_pos c_270_k103] at J104; exact (J104  ()))
                  · refine r_iconst (v := 1) C dX12_findsHeight_273 (by decide) ?_
                    refine r_goto (tgt := 278) C dX12_findsHeight_274 (by decide) ?_
                    first | exact (J104  ()) | (simp only [if_neg c_270_k103] at J104; exact (J104  ()))
                · refine r_aload_n (i := 0) C dX12_findsHeight_244 rfl rfl (by first | rfl | exact isR_rf _) ?_
                  refine rm_ref (k := 25) C f_X12_81 dX12_findsHeight_245 rfl rfl hM rfl ?_
                  refine r_iconst (v := 4) C dX12_findsHeight_248 (by decide) ?_
                  refine r_iload (i := 10) C dX12_findsHeight_249 rfl ?_
                  refine r_imul C dX12_findsHeight_251 ?_
                  refine r_iconst (v := 2) C dX12_findsHeight_252 (by decide) ?_
                  refine r_iadd C dX12_findsHeight_253 ?_
                  refine rm_iald (k := 25) C dX12_findsHeight_254 hM rfl rfl (g105 c_241_k101) ?_
                  refine r_goto (tgt := 279) C dX12_findsHeight_255 (by decide) ?_
                  first | exact (J106  ()) | (simp only [if_pos c_241_k101] at J106; exact (J106  ()))
          · have E := ite_t E c_116
            refine r_iload (i := 5) C dX12_findsHeight_119 rfl ?_
            refine r_iload (i := 9) C dX12_findsHeight_121 rfl ?_
            have J117 : ∀ (u : Unit), wr X 0 0 140 [.ref m, .int x1, .int x2, .int x3, .int x4, .int x5, .int x6, .int x7, .int x8, .int x9, .int x10, .int p45, .int p48, u13] [.int (if x9 = (0 : Int32) then p45 else if p45 ≤ x8 then x8 else p45), .int x5] (pm m h S) := by
              intro u
              refine bnd_elim (P := fun (z : Int32) => wr X 0 0 140 [.ref m, .int x1, .int x2, .int x3, .int x4, .int x5, .int x6, .int x7, .int x8, .int x9, .int x10, .int p45, .int p48, u13] [.int z, .int x5] (pm m h S)) E (fun p118 E => ?_)
              refine r_iadd C dX12_findsHeight_140 ?_
              refine bnd_elim (P := fun (z : Int32) => wr X 0 0 141 [.ref m, .int x1, .int x2, .int x3, .int x4, .int x5, .int x6, .int x7, .int x8, .int x9, .int x10, .int p45, .int p48, u13] [.int z] (pm m h S)) E (fun p119 E => ?_)
              refine r_istore (i := 5) C dX12_findsHeight_141 (Nat.le_of_ble_eq_true rfl) ?_
              refine r_aload_n (i := 0) C dX12_findsHeight_143 rfl rfl (by first | rfl | exact isR_rf _) ?_
              refine rm_ref (k := 25) C f_X12_81 dX12_findsHeight_144 rfl rfl hM rfl ?_
              refine r_iconst (v := 4) C dX12_findsHeight_147 (by decide) ?_
              refine r_iload (i := 10) C dX12_findsHeight_148 rfl ?_
              refine r_imul C dX12_findsHeight_150 ?_
              refine r_iconst (v := 0) C dX12_findsHeight_151 (by decide) ?_
              obtain ⟨g121, E⟩ := gd_elim E
              refine rm_iast (k := 25) C dX12_findsHeight_152 hM rfl rfl g121 ?_
              refine bnd_elim (P := fun (Z : MM) => wr X 0 0 153 [.ref m, .int x1, .int x2, .int x3, .int x4, .int p119, .int x6, .int x7, .int x8, .int x9, .int x10, .int p45, .int p48, u13] [] (pm m h Z)) E (fun S120 E => ?_)
              refine r_aload_n (i := 0) C dX12_findsHeight_153 rfl rfl (by first | rfl | exact isR_rf _) ?_
              refine rm_ref (k := 25) C f_X12_81 dX12_findsHeight_154 rfl rfl hM rfl ?_
              refine r_iconst (v := 4) C dX12_findsHeight_157 (by decide) ?_
              refine r_iload (i := 10) C dX12_findsHeight_158 rfl ?_
              refine r_imul C dX12_findsHeight_160 ?_
              refine r_iconst (v := 1) C dX12_findsHeight_161 (by decide) ?_
              refine r_iadd C dX12_findsHeight_162 ?_
              refine r_iload (i := 5) C dX12_findsHeight_163 rfl ?_
              obtain ⟨g123, E⟩ := gd_elim E
              refine rm_iast (k := 25) C dX12_findsHeight_165 hM rfl rfl g123 ?_
              refine bnd_elim (P := fun (Z : MM) => wr X 0 0 166 [.ref m, .int x1, .int x2, .int x3, .int x4, .int p119, .int x6, .int x7, .int x8, .int x9, .int x10, .int p45, .int p48, u13] [] (pm m h Z)) E (fun S122 E => ?_)
              refine r_iload (i := 5) C dX12_findsHeight_166 rfl ?_
              refine r_iload (i := 12) C dX12_findsHeight_168 rfl ?_
              refine r_iadd C dX12_findsHeight_170 ?_
              refine bnd_elim (P := fun (z : Int32) => wr X 0 0 171 [.ref m, .int x1, .int x2, .int x3, .int x4, .int p119, .int x6, .int x7, .int x8, .int x9, .int x10, .int p45, .int p48, u13] [.int z] (pm m h S122)) E (fun p124 E => ?_)
              refine r_istore (i := 5) C dX12_findsHeight_171 (Nat.le_of_ble_eq_true rfl) ?_
              refine r_aload_n (i := 0) C dX12_findsHeight_173 rfl rfl (by first | rfl | exact isR_rf _) ?_
              refine r_iload (i := 10) C dX12_findsHeight_174 rfl ?_
              refine r_iconst (v := 4) C dX12_findsHeight_176 (by decide) ?_
              obtain ⟨g126, E⟩ := gd_elim E
              refine r_callVs C v_X12_223 (z_of _ _ hM g126) dX12_findsHeight_177 hM.1 (ci := 10) (by decide) rfl rfl (As := [_, _]) rfl rfl rfl (by first | exact Nat.le_refl _ | exact Nat.le_of_ble_eq_true rfl | omega) (Nat.le_of_ble_eq_true rfl) (by first | exact Nat.le_refl _ | exact Nat.le_of_ble_eq_true rfl | omega) (by first | exact Nat.le_refl _ | exact Nat.le_of_ble_eq_true rfl | omega) ?_
              refine bnd_elim (P := fun (z : Int32) => wr X 0 0 180 [.ref m, .int x1, .int x2, .int x3, .int x4, .int p124, .int x6, .int x7, .int x8, .int x9, .int x10, .int p45, .int p48, u13] [.int z] (pm m h S122)) E (fun p127 E => ?_)
              refine r_istore (i := 8) C dX12_findsHeight_180 (Nat.le_of_ble_eq_true rfl) ?_
              refine r_goto (tgt := 313) C dX12_findsHeight_182 (by decide) ?_
              refine r_iinc1 (i := 9) C dX12_findsHeight_313 rfl ?_
              refine r_iinc1 (i := 10) C dX12_findsHeight_316 rfl ?_
              refine r_goto (tgt := 63) C dX12_findsHeight_319 (by decide) ?_
              exact ih _ _ _ _ _ _ _ _ _ _ E hK0
            refine r_if_eq (tgt := 133) C dX12_findsHeight_123 (by decide) (fun c_123_k115 => ?_) (fun c_123_k115 => ?_)
            · refine r_iload (i := 11) C dX12_findsHeight_133 rfl ?_
              refine r_goto (tgt := 140) C dX12_findsHeight_135 (by decide) ?_
              first | exact (J117  ()) | (simp only [if_pos c_123_k115] at J117; exact (J117  ()))
            · refine r_iload (i := 11) C dX12_findsHeight_126 rfl ?_
              refine r_iload (i := 8) C dX12_findsHeight_128 rfl ?_
              refine r_ic_le (tgt := 138) C dX12_findsHeight_130 (by decide) (fun c_130_k116 => ?_) (fun c_130_k116 => ?_)
              · refine r_iload (i := 8) C dX12_findsHeight_138 rfl ?_
                first | exact (J117  ()) | (simp only [if_neg c_123_k115, if_pos c_130_k116] at J117; exact (J117  ()))
              · refine r_iload (i := 11) C dX12_findsHeight_133 rfl ?_
                refine r_goto (tgt := 140) C dX12_findsHeight_135 (by decide) ?_
                first | exact (J117  ()) | (simp only [if_neg c_123_k115, if_neg c_130_k116] at J117; exact (J117  ()))
def m_findsHeight (S : MM) (a0 : Int32) : Option (MM) := bd (m_findsLines S a0) fun S1 => (if m_of_g S1 a0 (5 : Int32) then bnd (m_of S1 a0 (5 : Int32)) fun p4 => (if m_of_g S1 a0 (7 : Int32) then bnd (m_of S1 a0 (7 : Int32)) fun p7 => (if ix (((4 : Int32) * a0) + (2 : Int32)) 96 then bnd (S1 25 (tn (((4 : Int32) * a0) + (2 : Int32)))) fun p10 => (if ix a0 24 then if m_of_g S1 a0 (9 : Int32) then bnd ((S1 26 (tn a0)) * (m_of S1 a0 (9 : Int32))) fun p15 => (m_findsHeight_63 (fun p128 p129 p130 S140 => if m_of_g S140 a0 (1 : Int32) then bnd (if (m_of S140 a0 (1 : Int32)) = ((-2) : Int32) then (p128 + p129) + p130 else m_of S140 a0 (1 : Int32)) fun p145 => if ix (((4 : Int32) * a0) + (3 : Int32)) 96 then bnd (u2 S140 25 (tn (((4 : Int32) * a0) + (3 : Int32))) p145) fun S146 => (some S146) else none else none) a0 p4 p7 p10 1000 p15 (0 : Int32) (0 : Int32) (0 : Int32) (0 : Int32) (0 : Int32) S1) else none else none) else none) else none) else none)
theorem z_findsHeight (l : Launch) (G : Gl) {m : Nat} {h : Hp} (hM : MW m h) {S : MM} {a0 : Int32} {r : MM} (E : m_findsHeight S a0 = some r) : MRw l G yX12_findsHeight (.code yX12_findsHeight cX12_findsHeight 14 none) 2 0 0 [.ref m, .int a0] (pm m h S) (.inl (none, pm m h r)) := by
  refine mr_of (by decide +kernel) (Nat.le_of_ble_eq_true rfl) (ct2 rfl rfl) (fun X hG hl C E0 => ?_)
  subst hG hl
  rw [m_findsHeight] at E
  refine r_aload_n (i := 0) C dX12_findsHeight_0 rfl rfl (by first | rfl | exact isR_rf _) ?_
  refine r_iload_n (i := 1) C dX12_findsHeight_1 rfl rfl ?_
  obtain ⟨S1, q, E⟩ := bd_elim E
  refine r_callVn C v_X12_236 (z_findsLines _ _ hM q) dX12_findsHeight_2 hM.1 (ci := 10) (by decide) rfl rfl (As := [_]) rfl rfl rfl (by first | exact Nat.le_refl _ | exact Nat.le_of_ble_eq_true rfl | omega) (Nat.le_of_ble_eq_true rfl) (by first | exact Nat.le_refl _ | exact Nat.le_of_ble_eq_true rfl | omega) (by first | exact Nat.le_refl _ | exact Nat.le_of_ble_eq_true rfl | omega) ?_
  refine r_aload_n (i := 0) C dX12_findsHeight_5 rfl rfl (by first | rfl | exact isR_rf _) ?_
  refine r_iload_n (i := 1) C dX12_findsHeight_6 rfl rfl ?_
  refine r_iconst (v := 5) C dX12_findsHeight_7 (by decide) ?_
  obtain ⟨g3, E⟩ := gd_elim E
  refine r_callVs C v_X12_223 (z_of _ _ hM g3) dX12_findsHeight_8 hM.1 (ci := 10) (by decide) rfl rfl (As := [_, _]) rfl rfl rfl (by first | exact Nat.le_refl _ | exact Nat.le_of_ble_eq_true rfl | omega) (Nat.le_of_ble_eq_true rfl) (by first | exact Nat.le_refl _ | exact Nat.le_of_ble_eq_true rfl | omega) (by first | exact Nat.le_refl _ | exact Nat.le_of_ble_eq_true rfl | omega) ?_
  refine bnd_elim (P := fun (z : Int32) => wr X 0 0 11 [.ref m, .int a0, (.long 0), (.long 0), (.long 0), (.long 0), (.long 0), (.long 0), (.long 0), (.long 0), (.long 0), (.long 0), (.long 0), (.long 0)] [.int z] (pm m h S1)) E (fun p4 E => ?_)
  refine r_istore_n (i := 2) C dX12_findsHeight_11 rfl (Nat.le_of_ble_eq_true rfl) ?_
  refine r_aload_n (i := 0) C dX12_findsHeight_12 rfl rfl (by first | rfl | exact isR_rf _) ?_
  refine r_iload_n (i := 1) C dX12_findsHeight_13 rfl rfl ?_
  refine r_bipush (v := 7) C dX12_findsHeight_14 (by decide) ?_
  obtain ⟨g6, E⟩ := gd_elim E
  refine r_callVs C v_X12_223 (z_of _ _ hM g6) dX12_findsHeight_16 hM.1 (ci := 10) (by decide) rfl rfl (As := [_, _]) rfl rfl rfl (by first | exact Nat.le_refl _ | exact Nat.le_of_ble_eq_true rfl | omega) (Nat.le_of_ble_eq_true rfl) (by first | exact Nat.le_refl _ | exact Nat.le_of_ble_eq_true rfl | omega) (by first | exact Nat.le_refl _ | exact Nat.le_of_ble_eq_true rfl | omega) ?_
  refine bnd_elim (P := fun (z : Int32) => wr X 0 0 19 [.ref m, .int a0, .int p4, (.long 0), (.long 0), (.long 0), (.long 0), (.long 0), (.long 0), (.long 0), (.long 0), (.long 0), (.long 0), (.long 0)] [.int z] (pm m h S1)) E (fun p7 E => ?_)
  refine r_istore_n (i := 3) C dX12_findsHeight_19 rfl (Nat.le_of_ble_eq_true rfl) ?_
  refine r_aload_n (i := 0) C dX12_findsHeight_20 rfl rfl (by first | rfl | exact isR_rf _) ?_
  refine rm_ref (k := 25) C f_X12_81 dX12_findsHeight_21 rfl rfl hM rfl ?_
  refine r_iconst (v := 4) C dX12_findsHeight_24 (by decide) ?_
  refine r_iload_n (i := 1) C dX12_findsHeight_25 rfl rfl ?_
  refine r_imul C dX12_findsHeight_26 ?_
  refine r_iconst (v := 2) C dX12_findsHeight_27 (by decide) ?_
  refine r_iadd C dX12_findsHeight_28 ?_
  obtain ⟨g9, E⟩ := gd_elim E
  refine rm_iald (k := 25) C dX12_findsHeight_29 hM rfl rfl g9 ?_
  refine bnd_elim (P := fun (z : Int32) => wr X 0 0 30 [.ref m, .int a0, .int p4, .int p7, (.long 0), (.long 0), (.long 0), (.long 0), (.long 0), (.long 0), (.long 0), (.long 0), (.long 0), (.long 0)] [.int z] (pm m h S1)) E (fun p10 E => ?_)
  refine r_istore (i := 4) C dX12_findsHeight_30 (Nat.le_of_ble_eq_true rfl) ?_
  refine r_aload_n (i := 0) C dX12_findsHeight_32 rfl rfl (by first | rfl | exact isR_rf _) ?_
  refine rm_ref (k := 26) C f_X12_84 dX12_findsHeight_33 rfl rfl hM rfl ?_
  refine r_iload_n (i := 1) C dX12_findsHeight_36 rfl rfl ?_
  obtain ⟨g12, E⟩ := gd_elim E
  refine rm_iald (k := 26) C dX12_findsHeight_37 hM rfl rfl g12 ?_
  refine r_aload_n (i := 0) C dX12_findsHeight_38 rfl rfl (by first | rfl | exact isR_rf _) ?_
  refine r_iload_n (i := 1) C dX12_findsHeight_39 rfl rfl ?_
  refine r_bipush (v := 9) C dX12_findsHeight_40 (by decide) ?_
  obtain ⟨g14, E⟩ := gd_elim E
  refine r_callVs C v_X12_223 (z_of _ _ hM g14) dX12_findsHeight_42 hM.1 (ci := 10) (by decide) rfl rfl (As := [_, _]) rfl rfl rfl (by first | exact Nat.le_refl _ | exact Nat.le_of_ble_eq_true rfl | omega) (Nat.le_of_ble_eq_true rfl) (by first | exact Nat.le_refl _ | exact Nat.le_of_ble_eq_true rfl | omega) (by first | exact Nat.le_refl _ | exact Nat.le_of_ble_eq_true rfl | omega) ?_
  refine r_imul C dX12_findsHeight_45 ?_
  refine bnd_elim (P := fun (z : Int32) => wr X 0 0 46 [.ref m, .int a0, .int p4, .int p7, .int p10, (.long 0), (.long 0), (.long 0), (.long 0), (.long 0), (.long 0), (.long 0), (.long 0), (.long 0)] [.int z] (pm m h S1)) E (fun p15 E => ?_)
  refine r_istore (i := 5) C dX12_findsHeight_46 (Nat.le_of_ble_eq_true rfl) ?_
  refine r_iconst (v := 0) C dX12_findsHeight_48 (by decide) ?_
  refine r_istore (i := 6) C dX12_findsHeight_49 (Nat.le_of_ble_eq_true rfl) ?_
  refine r_iconst (v := 0) C dX12_findsHeight_51 (by decide) ?_
  refine r_istore (i := 7) C dX12_findsHeight_52 (Nat.le_of_ble_eq_true rfl) ?_
  refine r_iconst (v := 0) C dX12_findsHeight_54 (by decide) ?_
  refine r_istore (i := 8) C dX12_findsHeight_55 (Nat.le_of_ble_eq_true rfl) ?_
  refine r_iconst (v := 0) C dX12_findsHeight_57 (by decide) ?_
  refine r_istore (i := 9) C dX12_findsHeight_58 (Nat.le_of_ble_eq_true rfl) ?_
  refine r_iconst (v := 0) C dX12_findsHeight_60 (by decide) ?_
  refine r_istore (i := 10) C dX12_findsHeight_61 (Nat.le_of_ble_eq_true rfl) ?_
  refine z_findsHeight_63 C hM E0 _ _ _ _ _ _ _ _ _ _ _ E (fun p128 p129 p130 S140 w131 w132 w133 w134 w135 w136 w137 w138 w139 E => ?_)
  refine r_aload_n (i := 0) C dX12_findsHeight_322 rfl rfl (by first | rfl | exact isR_rf _) ?_
  refine rm_ref (k := 25) C f_X12_81 dX12_findsHeight_323 rfl rfl hM rfl ?_
  refine r_iconst (v := 4) C dX12_findsHeight_326 (by decide) ?_
  refine r_iload_n (i := 1) C dX12_findsHeight_327 rfl rfl ?_
  refine r_imul C dX12_findsHeight_328 ?_
  refine r_iconst (v := 3) C dX12_findsHeight_329 (by decide) ?_
  refine r_iadd C dX12_findsHeight_330 ?_
  refine r_aload_n (i := 0) C dX12_findsHeight_331 rfl rfl (by first | rfl | exact isR_rf _) ?_
  refine r_iload_n (i := 1) C dX12_findsHeight_332 rfl rfl ?_
  refine r_iconst (v := 1) C dX12_findsHeight_333 (by decide) ?_
  obtain ⟨g142, E⟩ := gd_elim E
  refine r_callVs C v_X12_223 (z_of _ _ hM g142) dX12_findsHeight_334 hM.1 (ci := 10) (by decide) rfl rfl (As := [_, _]) rfl rfl rfl (by first | exact Nat.le_refl _ | exact Nat.le_of_ble_eq_true rfl | omega) (Nat.le_of_ble_eq_true rfl) (by first | exact Nat.le_refl _ | exact Nat.le_of_ble_eq_true rfl | omega) (by first | exact Nat.le_refl _ | exact Nat.le_of_ble_eq_true rfl | omega) ?_
  refine r_bipush (v := (-2)) C dX12_findsHeight_337 (by decide) ?_
  have J144 : ∀ (u : Unit), wr X 0 0 359 [.ref m, .int a0, w131, w132, w133, .int p128, w134, .int p129, .int p130, w135, w136, w137, w138, w139] [.int (if (m_of S140 a0 (1 : Int32)) = ((-2) : Int32) then (p128 + p129) + p130 else m_of S140 a0 (1 : Int32)), .int (((4 : Int32) * a0) + (3 : Int32)), .ref (m + mad 25)] (pm m h S140) := by
    intro u
    refine bnd_elim (P := fun (z : Int32) => wr X 0 0 359 [.ref m, .int a0, w131, w132, w133, .int p128, w134, .int p129, .int p130, w135, w136, w137, w138, w139] [.int z, .int (((4 : Int32) * a0) + (3 : Int32)), .ref (m + mad 25)] (pm m h S140)) E (fun p145 E => ?_)
    obtain ⟨g147, E⟩ := gd_elim E
    refine rm_iast (k := 25) C dX12_findsHeight_359 hM rfl rfl g147 ?_
    refine bnd_elim (P := fun (Z : MM) => wr X 0 0 360 [.ref m, .int a0, w131, w132, w133, .int p128, w134, .int p129, .int p130, w135, w136, w137, w138, w139] [] (pm m h Z)) E (fun S146 E => ?_)
    obtain rfl := Option.some.inj E
    exact r_vret C E0 dX12_findsHeight_360 rfl (Nat.le_refl _) (Nat.le_refl _)
  refine r_ic_eq (tgt := 351) C dX12_findsHeight_339 (by decide) (fun c_339_k143 => ?_) (fun c_339_k143 => ?_)
  · refine r_iload (i := 5) C dX12_findsHeight_351 rfl ?_
    refine r_iload (i := 7) C dX12_findsHeight_353 rfl ?_
    refine r_iadd C dX12_findsHeight_355 ?_
    refine r_iload (i := 8) C dX12_findsHeight_356 rfl ?_
    refine r_iadd C dX12_findsHeight_358 ?_
    first | exact (J144  ()) | (simp only [if_pos c_339_k143] at J144; exact (J144  ()))
  · refine r_aload_n (i := 0) C dX12_findsHeight_342 rfl rfl (by first | rfl | exact isR_rf _) ?_
    refine r_iload_n (i := 1) C dX12_findsHeight_343 rfl rfl ?_
    refine r_iconst (v := 1) C dX12_findsHeight_344 (by decide) ?_
    refine r_callVs C v_X12_223 (z_of _ _ hM g142) dX12_findsHeight_345 hM.1 (ci := 10) (by decide) rfl rfl (As := [_, _]) rfl rfl rfl (by first | exact Nat.le_refl _ | exact Nat.le_of_ble_eq_true rfl | omega) (Nat.le_of_ble_eq_true rfl) (by first | exact Nat.le_refl _ | exact Nat.le_of_ble_eq_true rfl | omega) (by first | exact Nat.le_refl _ | exact Nat.le_of_ble_eq_true rfl | omega) ?_
    refine r_goto (tgt := 359) C dX12_findsHeight_348 (by decide) ?_
    first | exact (J144  ()) | (simp only [if_neg c_339_k143] at J144; exact (J144  ()))

