/-! ===== the law: the loops in which the first house is told (by genlaw.py) ===== -/
theorem ks9 {x : Nat} (h : x ≤ 300000) : x ≤ 7120272 := Nat.le_trans h (Nat.le_of_ble_eq_true rfl)
theorem kc9 {x : Nat} (h : x ≤ 60000) : x ≤ 660499 := Nat.le_trans h (Nat.le_of_ble_eq_true rfl)
/-- so many for each turn (a word of its own for omega) -/
def cS (u m : Nat) : Nat := u * m
theorem cS_s {u m : Nat} : cS u (m + 1) = cS u m + u := Nat.mul_succ u m
theorem cS_0 {u : Nat} : cS u 0 = 0 := rfl
abbrev z0 : Nat → Int32 := fun _ => 0
abbrev T00 : TT := (1, 0, 100, z0, z0, z0, z0, z0)
def FDk (fd : Nat → Int32) : Prop := (∀ e, ∃ c, c < 16 ∧ fd e = nI c) ∧ ∀ e, 10 ≤ e → fd e = 0
theorem FDk_up {fd : Nat → Int32} {e c : Nat} (he : e < 10) (hc : c < 16) (H : FDk fd) : FDk (va_up fd e (nI c)) := ⟨va_n (P := fun v => ∃ c, c < 16 ∧ v = nI c) H.1 ⟨c, hc, rfl⟩, va_h he H.2⟩
theorem nle9 {a c : Nat} (h : c < a) (ha : a < 2 ^ 31 := by decide) : ¬ nI a ≤ nI c := fun z => absurd ((nI_leI ha (by omega)).mp z) (Nat.not_le.mpr h)
theorem lawA {X : Ctx} (C : Cx X yL_law cL_law 20 (Option.some Jvm.ClassFile.FieldType.boolean) [] 20 660499 7120272) {Ho Hq a : Nat} {u12 u13 u14 u15 u16 u17 u18 u19 : Value} (K : ∀ (k n : Nat) (b : Hp) (fd : Nat → Int32) (v11 : Value), k ≤ 400 → n ≤ 8000 → FDk fd → WO (gOf X) b Ho Hq a (10, 0, 100, fd, z0, z0, z0, z0) T00 (fd, z0, z0, z0, z0) → wr X k n 133 [.ref 0, .ref Ho, .ref Hq, .ref a, .ref (a + 1), .ref (a + 2), .ref (a + 3), .ref (a + 4), .int 100, .int 1, .int (nI 10), v11, u12, u13, u14, u15, u16, u17, u18, u19] [] b) :
    ∀ (m e k n : Nat) (b : Hp) (fd : Nat → Int32) (v11 : Value), e + m = 10 → 1 ≤ e → k + 30 * m ≤ 400 → n + cS 600 m ≤ 8000 → FDk fd → WO (gOf X) b Ho Hq a (e, 0, 100, fd, z0, z0, z0, z0) T00 (fd, z0, z0, z0, z0) → wr X k n 55 [.ref 0, .ref Ho, .ref Hq, .ref a, .ref (a + 1), .ref (a + 2), .ref (a + 3), .ref (a + 4), .int 100, .int 1, .int (nI e), v11, u12, u13, u14, u15, u16, u17, u18, u19] [] b := by
  intro m
  induction m with
  | zero =>
    intro e k n b fd v11 hm he hk hn hF W
    have : e = 10 := by omega
    subst this

    refine r_iload (i := 10) C dL_law_55 rfl ?_
    refine r_bipush (v := nI 10) C dL_law_57 (by decide) ?_
    refine r_ic_ge (tgt := 133) C dL_law_59 (by decide) (fun c => ?_) (fun c => ?_)
    rotate_left
    · exact absurd (nI_le (Nat.le_refl 10) (by decide)) c
    exact K _ _ _ _ _ hk (by rw [cS_0] at hn; exact hn) hF W
  | succ m ih =>
    intro e k n b fd v11 hm he hk hn hF W
    rw [cS_s, ← Nat.add_assoc] at hn
    have d30 := drw_lt (gOf X) e
    have c10 : e < 10 := by omega
    refine r_iload (i := 10) C dL_law_55 rfl ?_
    refine r_bipush (v := nI 10) C dL_law_57 (by decide) ?_
    refine r_ic_ge (tgt := 133) C dL_law_59 (by decide) (fun c => ?_) (fun c => ?_)
    · exact absurd c (nle9 c10)
    refine r_iload (i := 9) C dL_law_62 rfl ?_
    refine r_if_eq (tgt := 133) C dL_law_64 (by decide) (fun c => ?_) (fun c => ?_)
    · exact absurd c (by decide)
    refine r_aload_n (i := 0) C dL_law_67 rfl rfl (by first | rfl | exact isR_rf _) ?_
    refine r_iload (i := 10) C dL_law_68 rfl ?_
    refine r_callSs C s_L_94 (c_drawn (lOf X) (gOf X) (b := b) (k := e) (by omega)) dL_law_70 (As := [_, _]) rfl rfl rfl (Nat.le_of_ble_eq_true rfl) (Nat.le_of_ble_eq_true rfl) (kc9 ?_) (ks9 ?_) ?_
    · omega
    · omega
    refine r_istore (i := 11) C dL_law_73 (Nat.le_of_ble_eq_true rfl) ?_
    refine r_aload_n (i := 1) C dL_law_75 rfl rfl (by first | rfl | exact isR_rf _) ?_
    refine r_iconst (v := 0) C dL_law_76 (by decide) ?_
    refine r_iload (i := 11) C dL_law_77 rfl ?_
    refine r_iload (i := 10) C dL_law_79 rfl ?_
    refine r_remN C dL_law_81 (by omega) (by omega) (by omega) ?_
    refine r_iload (i := 11) C dL_law_82 rfl ?_
    refine r_bipush (v := nI 9) C dL_law_84 (by decide) ?_
    refine r_divN C dL_law_86 (by omega) (by omega) (by omega) ?_
    refine r_bipush (v := nI 6) C dL_law_87 (by decide) ?_
    refine r_remN C dL_law_89 (by omega) (by omega) (by omega) ?_
    refine r_iload (i := 11) C dL_law_90 rfl ?_
    refine r_bipush (v := nI 54) C dL_law_92 (by decide) ?_
    refine r_divN C dL_law_94 (by omega) (by omega) (by omega) ?_
    refine r_bipush (v := nI 16) C dL_law_95 (by decide) ?_
    refine r_remN C dL_law_97 (by omega) (by omega) (by omega) ?_
    refine r_iconst (v := 0) C dL_law_98 (by decide) ?_
    refine r_iconst (v := 0) C dL_law_99 (by decide) ?_
    obtain ⟨b', M, W'⟩ := wo_o W (fun P gb h => st_add (l := lOf X) (c := drw (gOf X) e / 54 % 16) gb h he (by omega) rfl rfl (by omega))
    refine r_callHs C s_L_87 M dL_law_100 (As := [_, _, _, _, _, _, _]) rfl rfl rfl (Nat.le_of_ble_eq_true rfl) (Nat.le_of_ble_eq_true rfl) (kc9 ?_) (ks9 ?_) ?_
    · omega
    · omega
    refine r_iload (i := 10) C dL_law_103 rfl ?_
    refine r_ic_ne (tgt := 112) C dL_law_105 (by decide) (fun c => ?_) (fun c => ?_)
    · exact absurd rfl c
    refine r_iconst (v := 1) C dL_law_108 (by decide) ?_
    refine r_goto (tgt := 113) C dL_law_109 (by decide) ?_
    refine r_istore (i := 9) C dL_law_113 (Nat.le_of_ble_eq_true rfl) ?_
    obtain ⟨⟨k0, l0, d0⟩, ⟨k1, l1, d1⟩, ⟨k2, l2, d2⟩, ⟨k3, l3, d3⟩, k4, l4, d4⟩ := wo_ar W'
    have d0 : hA b' a = fd := d0
    have d1 : hA b' (a + 1) = z0 := d1
    have d2 : hA b' (a + 2) = z0 := d2
    have d3 : hA b' (a + 3) = z0 := d3
    have d4 : hA b' (a + 4) = z0 := d4
    refine r_aload_n (i := 3) C dL_law_115 rfl rfl (by first | rfl | exact isR_rf _) ?_
    refine r_iload (i := 10) C dL_law_116 rfl ?_
    refine r_iload (i := 11) C dL_law_118 rfl ?_
    refine r_bipush (v := nI 54) C dL_law_120 (by decide) ?_
    refine r_divN C dL_law_122 (by omega) (by omega) (by omega) ?_
    refine r_bipush (v := nI 16) C dL_law_123 (by decide) ?_
    refine r_remN C dL_law_125 (by omega) (by omega) (by omega) ?_
    refine r_iast (j := e) C dL_law_126 k0 rfl (by rw [l0]; omega) ?_
    refine r_iinc1 (i := 10) C dL_law_127 rfl ?_
    rw [nI_1]
    refine r_goto (tgt := 55) C dL_law_130 (by decide) ?_
    exact ih (e + 1) _ _ _ (va_up fd e (nI (drw (gOf X) e / 54 % 16))) _ (by omega) (by omega) (by omega) (by omega) (FDk_up c10 (by omega) hF) (wo_A (i := 0) (j := e) (v := nI (drw (gOf X) e / 54 % 16)) (by decide) W')

theorem FA_up {fa : Nat → Int32} {r : Nat} (hr : r < 6) (h : ∀ i, i < r → ∃ x, x < 80 ∧ fa i = nI x - 1) : ∀ i, i < r + 1 → ∃ x, x < 80 ∧ va_up fa r (-1) i = nI x - 1 := fun i hi => by
  by_cases q : i = r
  · rw [q, va_up_self]
    exact ⟨0, by decide, by decide⟩
  · rw [va_up_ne _ _ q]
    exact h i (by omega)
theorem FA_up0 {fa : Nat → Int32} {r : Nat} {v : Int32} (h : ∀ i, r ≤ i → fa i = 0) : ∀ i, r + 1 ≤ i → va_up fa r v i = 0 := fun i hi => by
  rw [va_up_ne _ _ (by omega)]
  exact h i (by omega)
theorem lawB {X : Ctx} (C : Cx X yL_law cL_law 20 (Option.some Jvm.ClassFile.FieldType.boolean) [] 20 660499 7120272) {Ho Hq a : Nat} {u12 u13 u14 u15 u16 u17 u18 u19 : Value} (K : ∀ (k n : Nat) (b : Hp) (fd fa : Nat → Int32) (v11 : Value), k ≤ 600 → n ≤ 12000 → FDk fd → (∀ i, i < 6 → ∃ x, x < 80 ∧ fa i = nI x - 1) → (∀ i, 6 ≤ i → fa i = 0) → WO (gOf X) b Ho Hq a (10, 6, 100, fd, z0, z0, fa, z0) T00 (fd, z0, z0, fa, z0) → wr X k n 254 [.ref 0, .ref Ho, .ref Hq, .ref a, .ref (a + 1), .ref (a + 2), .ref (a + 3), .ref (a + 4), .int 100, .int 1, .int (nI 6), v11, u12, u13, u14, u15, u16, u17, u18, u19] [] b) :
    ∀ (m r k n : Nat) (b : Hp) (fd fa : Nat → Int32) (v11 : Value), r + m = 6 → k + 30 * m ≤ 600 → n + cS 600 m ≤ 12000 → FDk fd → (∀ i, i < r → ∃ x, x < 80 ∧ fa i = nI x - 1) → (∀ i, r ≤ i → fa i = 0) → WO (gOf X) b Ho Hq a (10, r, 100, fd, z0, z0, fa, z0) T00 (fd, z0, z0, fa, z0) → wr X k n 136 [.ref 0, .ref Ho, .ref Hq, .ref a, .ref (a + 1), .ref (a + 2), .ref (a + 3), .ref (a + 4), .int 100, .int 1, .int (nI r), v11, u12, u13, u14, u15, u16, u17, u18, u19] [] b := by
  intro m
  induction m with
  | zero =>
    intro r k n b fd fa v11 hm hk hn hF h1 h2 W
    have : r = 6 := by omega
    subst this
    refine r_iload (i := 10) C dL_law_136 rfl ?_
    refine r_bipush (v := nI 6) C dL_law_138 (by decide) ?_
    refine r_ic_ge (tgt := 254) C dL_law_140 (by decide) (fun c => ?_) (fun c => ?_)
    rotate_left
    · exact absurd (nI_le (Nat.le_refl 6) (by decide)) c
    exact K _ _ _ _ _ _ hk (by rw [cS_0] at hn; exact hn) hF h1 h2 W
  | succ m ih =>
    intro r k n b fd fa v11 hm hk hn hF h1 h2 W
    rw [cS_s, ← Nat.add_assoc] at hn
    have d30 := drw_lt (gOf X) (10 + r)
    have c6 : r < 6 := by omega
    refine r_iload (i := 10) C dL_law_136 rfl ?_
    refine r_bipush (v := nI 6) C dL_law_138 (by decide) ?_
    refine r_ic_ge (tgt := 254) C dL_law_140 (by decide) (fun c => ?_) (fun c => ?_)
    · exact absurd c (nle9 c6)
    refine r_iload (i := 9) C dL_law_143 rfl ?_
    refine r_if_eq (tgt := 254) C dL_law_145 (by decide) (fun c => ?_) (fun c => ?_)
    · exact absurd c (by decide)
    refine r_aload_n (i := 0) C dL_law_148 rfl rfl (by first | rfl | exact isR_rf _) ?_
    refine r_bipush (v := nI 10) C dL_law_149 (by decide) ?_
    refine r_iload (i := 10) C dL_law_151 rfl ?_
    refine r_addN C dL_law_153 ?_
    refine r_callSs C s_L_94 (c_drawn (lOf X) (gOf X) (b := b) (k := 10 + r) (by omega)) dL_law_154 (As := [_, _]) rfl rfl rfl (Nat.le_of_ble_eq_true rfl) (Nat.le_of_ble_eq_true rfl) (kc9 ?_) (ks9 ?_) ?_
    · omega
    · omega
    refine r_istore (i := 11) C dL_law_157 (Nat.le_of_ble_eq_true rfl) ?_
    have J2 : ∀ y : Int32, y = rb (gOf X) r → wr X (k + 0) (n + 0) 227 [.ref 0, .ref Ho, .ref Hq, .ref a, .ref (a + 1), .ref (a + 2), .ref (a + 3), .ref (a + 4), .int 100, .int 1, .int (nI r), .int (nI (drw (gOf X) (10 + r))), u12, u13, u14, u15, u16, u17, u18, u19] [.int y, .int (nI (drw (gOf X) (10 + r) / 288 % 3)), .int (nI (drw (gOf X) (10 + r) / 144 % 2)), .int (nI (drw (gOf X) (10 + r) / 72 % 2 * 8)), .int (nI (drw (gOf X) (10 + r) / 18 % 4)), .int (rt (gOf X) r), .ref Ho] b := fun y hy => by
      subst hy
      obtain ⟨b', M, W'⟩ := wo_o W (fun P gb h => st_rule (l := lOf X) gb h (by omega))
      refine r_callHs C s_L_98 M dL_law_227 (As := [_, _, _, _, _, _, _]) rfl rfl rfl (Nat.le_of_ble_eq_true rfl) (Nat.le_of_ble_eq_true rfl) (kc9 ?_) (ks9 ?_) ?_
      · omega
      · omega
      refine r_iload (i := 10) C dL_law_230 rfl ?_
      refine r_ic_ne (tgt := 239) C dL_law_232 (by decide) (fun c => ?_) (fun c => ?_)
      · exact absurd rfl c
      refine r_iconst (v := 1) C dL_law_235 (by decide) ?_
      refine r_goto (tgt := 240) C dL_law_236 (by decide) ?_
      refine r_istore (i := 9) C dL_law_240 (Nat.le_of_ble_eq_true rfl) ?_
      obtain ⟨⟨k0, l0, d0⟩, ⟨k1, l1, d1⟩, ⟨k2, l2, d2⟩, ⟨k3, l3, d3⟩, k4, l4, d4⟩ := wo_ar W'
      have d0 : hA b' a = fd := d0
      have d1 : hA b' (a + 1) = z0 := d1
      have d2 : hA b' (a + 2) = z0 := d2
      have d3 : hA b' (a + 3) = fa := d3
      have d4 : hA b' (a + 4) = z0 := d4
      refine r_aload (i := 6) C dL_law_242 rfl (by first | rfl | exact isR_rf _) ?_
      refine r_iload (i := 10) C dL_law_244 rfl ?_
      refine r_iconst (v := (-1)) C dL_law_246 (by decide) ?_
      refine r_iast (j := r) C dL_law_247 k3 rfl (by rw [l3]; omega) ?_
      refine r_iinc1 (i := 10) C dL_law_248 rfl ?_
      rw [nI_1]
      refine r_goto (tgt := 136) C dL_law_251 (by decide) ?_
      exact ih (r + 1) _ _ _ fd (va_up fa r (-1)) _ (by omega) (by omega) (by omega) hF (FA_up c6 h1) (FA_up0 h2) (wo_A (i := 3) (j := r) (v := -1) (by decide) W')
    have J1 : ∀ x : Int32, x = rt (gOf X) r → wr X (k + 0) (n + 0) 178 [.ref 0, .ref Ho, .ref Hq, .ref a, .ref (a + 1), .ref (a + 2), .ref (a + 3), .ref (a + 4), .int 100, .int 1, .int (nI r), .int (nI (drw (gOf X) (10 + r))), u12, u13, u14, u15, u16, u17, u18, u19] [.int x, .ref Ho] b := fun x hx => by
      subst hx
      refine r_iload (i := 11) C dL_law_178 rfl ?_
      refine r_bipush (v := nI 18) C dL_law_180 (by decide) ?_
      refine r_divN C dL_law_182 (by omega) (by omega) (by omega) ?_
      refine r_iconst (v := nI 4) C dL_law_183 (by decide) ?_
      refine r_remN C dL_law_184 (by omega) (by omega) (by omega) ?_
      refine r_iload (i := 11) C dL_law_185 rfl ?_
      refine r_bipush (v := nI 72) C dL_law_187 (by decide) ?_
      refine r_divN C dL_law_189 (by omega) (by omega) (by omega) ?_
      refine r_iconst (v := nI 2) C dL_law_190 (by decide) ?_
      refine r_remN C dL_law_191 (by omega) (by omega) (by omega) ?_
      refine r_bipush (v := nI 8) C dL_law_192 (by decide) ?_
      refine r_mulN C dL_law_194 ?_
      refine r_iload (i := 11) C dL_law_195 rfl ?_
      refine r_sipush (v := nI 144) C dL_law_197 (by decide) ?_
      refine r_divN C dL_law_200 (by omega) (by omega) (by omega) ?_
      refine r_iconst (v := nI 2) C dL_law_201 (by decide) ?_
      refine r_remN C dL_law_202 (by omega) (by omega) (by omega) ?_
      refine r_iload (i := 11) C dL_law_203 rfl ?_
      refine r_sipush (v := nI 288) C dL_law_205 (by decide) ?_
      refine r_divN C dL_law_208 (by omega) (by omega) (by omega) ?_
      refine r_iconst (v := nI 3) C dL_law_209 (by decide) ?_
      refine r_remN C dL_law_210 (by omega) (by omega) (by omega) ?_
      refine r_iload (i := 11) C dL_law_211 rfl ?_
      refine r_sipush (v := nI 864) C dL_law_213 (by decide) ?_
      refine r_divN C dL_law_216 (by omega) (by omega) (by omega) ?_
      refine r_iconst (v := nI 3) C dL_law_217 (by decide) ?_
      refine r_remN C dL_law_218 (by omega) (by omega) (by omega) ?_
      refine r_if_ne (tgt := 226) C dL_law_219 (by decide) (fun c => ?_) (fun c => ?_)
      · have c : ¬ drw (gOf X) (10 + r) / 864 % 3 = 0 := fun z => c (by rw [z]; rfl)
        refine r_iconst (v := 0) C dL_law_226 (by decide) ?_
        exact J2 _ (if_neg c).symm
      · have c : drw (gOf X) (10 + r) / 864 % 3 = 0 := (nI_eq (b := 0) (by omega) (by decide)).mp c
        refine r_iconst (v := 1) C dL_law_222 (by decide) ?_
        refine r_goto (tgt := 227) C dL_law_223 (by decide) ?_
        exact J2 _ (if_pos c).symm
    refine r_aload_n (i := 1) C dL_law_159 rfl rfl (by first | rfl | exact isR_rf _) ?_
    refine r_iload (i := 11) C dL_law_160 rfl ?_
    refine r_iconst (v := nI 3) C dL_law_162 (by decide) ?_
    refine r_remN C dL_law_163 (by omega) (by omega) (by omega) ?_
    refine r_if_ne (tgt := 177) C dL_law_164 (by decide) (fun c => ?_) (fun c => ?_)
    · have c : ¬ drw (gOf X) (10 + r) % 3 = 0 := fun z => c (by rw [z]; rfl)
      refine r_iconst (v := (-1)) C dL_law_177 (by decide) ?_
      exact J1 _ (if_neg c).symm
    · have c : drw (gOf X) (10 + r) % 3 = 0 := (nI_eq (b := 0) (by omega) (by decide)).mp c
      refine r_iload (i := 11) C dL_law_167 rfl ?_
      refine r_iconst (v := nI 3) C dL_law_169 (by decide) ?_
      refine r_divN C dL_law_170 (by omega) (by omega) (by omega) ?_
      refine r_bipush (v := nI 6) C dL_law_171 (by decide) ?_
      refine r_remN C dL_law_173 (by omega) (by omega) (by omega) ?_
      refine r_goto (tgt := 178) C dL_law_174 (by decide) ?_
      exact J1 _ (if_pos c).symm
