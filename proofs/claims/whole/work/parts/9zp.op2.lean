/-! ===== the calls that read: both sides ===== -/
theorem OKr_0 {A : Nat → Nat} {m b : Nat} {h : Hp} {S : MM} (H : CI A m h S b) : OKr A m h S b h (u2 S 0 0 0) := by
  refine ⟨u2_self _ _ _ _, CI_0 (Nat.le_refl b) H, ?_, ?_⟩
  · obtain ⟨D, n, R, Ee, is, ss, ra, pa, Dd, Pl, dP, T, N, O, hl, M, _⟩ := H
    exact M
  · obtain ⟨D, n, R, Ee, is, ss, ra, pa, Dd, Pl, dP, T, _⟩ := H
    exact ⟨T.1, KP_r h, rfl⟩
theorem lme_i {h : Hp} {k p : Nat} (hp : p < 4) : lme h k p = if hI h fL_hasBox k = 0 then -1 else hI h (260 + p) k := by
  unfold lme
  by_cases q : hI h fL_hasBox k = 0
  · rw [if_pos q, if_pos q]
  · rw [if_neg q, if_neg q]
    have : p = 0 ∨ p = 1 ∨ p = 2 ∨ p = 3 := by omega
    rcases this with z | z | z | z <;> subst z <;> rfl
theorem lme_o {h : Hp} {S : MM} {k f p : Nat} (hp : p < 4) (H : LKo h k S f) : lme h k p = S 25 (4 * f + p) := by
  rw [lme_i hp]
  rcases H.2.2 with ⟨c0, _, _, _, _, _, c, _⟩ | ⟨c0, _, c1, c2, c3, c4, _⟩
  · rw [if_pos c0, c p hp]
  · rw [if_neg (fun z => by rw [c0] at z; exact absurd z (by decide))]
    have : p = 0 ∨ p = 1 ∨ p = 2 ∨ p = 3 := by omega
    rcases this with z | z | z | z <;> subst z
    · exact c1
    · exact c2
    · exact c3
    · exact c4
theorem lme_z {h : Hp} {S Y : MM} {k v s e p : Nat} (hp : p < 4) (G : LKZ h k v s Y e) (g : GE S Y e) : lme h k p = S 25 (4 * e + p) := by
  obtain ⟨_, g2, g3, g4, g5, g6, _⟩ := G
  rw [lme_i hp, g2, g.1 p hp]
  by_cases q : Y e 29 = 0
  · rw [if_pos q, if_pos q]
  · rw [if_neg q, if_neg q]
    have : p = 0 ∨ p = 1 ∨ p = 2 ∨ p = 3 := by omega
    rcases this with z | z | z | z <;> subst z
    · exact g3
    · exact g4
    · exact g5
    · exact g6
theorem pr_of {x : Int32} {hi : Nat} (h31 : hi < 2 ^ 31) (q : ¬ (x < 0 ∨ nI hi < x)) : ∃ p, p < hi + 1 ∧ x = nI p := by
  obtain ⟨p, hp, e⟩ := nI_of (fun z => q (Or.inl z))
  refine ⟨p, Nat.lt_of_not_le fun z => q (Or.inr ?_), e⟩
  rw [e]
  exact nI_lt z hp
theorem op_fits (l : Launch) (G : Gl) {A : Nat → Nat} {m b : Nat} {h : Hp} {S : MM} (H : CI A m h S b) (x c : Int32) :
    (∃ (h2 : Hp) (S' : MM) (v : Int32), MRw l G yX11_fits (.code yX11_fits cX11_fits 4 (Option.some Jvm.ClassFile.FieldType.boolean)) 12 8 200 [.ref (A 0), .int x, .int c] h (.inl (some (.int v), h2)) ∧ m_fits S x c = some (v, S') ∧ (v = 0 ∨ v = 1) ∧ OKr A m h S b h2 S') ∨
    (MRw l G yX11_fits (.code yX11_fits cX11_fits 4 (Option.some Jvm.ClassFile.FieldType.boolean)) 12 8 200 [.ref (A 0), .int x, .int c] h (.inr (xI, h)) ∧ m_fits S x c = some (0, u2 S 0 0 1)) := by
  have hok := OKr_0 H
  obtain ⟨D, n, R, Ee, is, ss, ra, pa, Dd, Pl, dP, T, N, O, hl, M, nu, z, len, ky⟩ := H
  have hkH := T.2.1.1.1
  have hS := N.1.1
  rcases isRule_cs (x := x) N.1.2.1.1 with ⟨r, hr, ex, hi⟩ | ⟨hx, hi⟩
  · subst ex
    have h16 := N.1.2.1.1.2.1
    cases hp : plc S n c with
    | none => exact Or.inr ⟨c_fits_x2 l G hkH (ru_ok T hr) (el_no T hp), m_fits_no hS (Or.inr hp)⟩
    | some p =>
      have hpn := (plc_lt hp).1
      obtain ⟨_, ⟨q1, q2⟩, q3, q4, _⟩ := T.2.2.2.2.2.1.2.2 r hr
      obtain ⟨cc, e11, c11, c12, _⟩ := N.1.2.1.1.2.2 r hr
      obtain ⟨v, Ms, v1, v01⟩ := c_selects l G (e := Ee p) q4.1 q1 q2 (by rw [List.length_map, List.length_range, e11, tn_nI (by omega)]; exact c12) (fun y hy => by
        obtain ⟨k, hk, rfl⟩ := List.mem_map.mp hy
        exact (q3 k (List.mem_range.mp hk)).1) (ex_TW T hS) (List.mem_map.mpr ⟨p, List.mem_range.mpr hpn, rfl⟩)
      have sf := SL_fit hS N.1.2.1 (ex_ER T) (ex_RR T N.2.2.2.2) hpn hr
      rw [pO_r T.2.2.2.2.2.1.1 hr] at sf
      obtain ⟨v', e', v1', v01'⟩ := m_fits_ok (x := c) hS (show r < 16 by omega) hi hp
      have ev : v' = v := by
        have hiff : v = 1 ↔ v' = 1 := v1.trans (sf.trans v1'.symm)
        rcases v01 with a | a
        · rcases v01' with a' | a'
          · rw [a, a']
          · exact absurd (hiff.mpr a') (by rw [a]; decide)
        · rw [a, hiff.mp a]
      rw [ev] at e'
      exact Or.inl ⟨h, _, v, c_fits_ok l G hkH (ru_ok T hr) (el_ok T hp) q4.1 Ms v01, e', v01, hok⟩
  · exact Or.inr ⟨c_fits_x1 l G hkH (ru_no T hx), m_fits_no hS (Or.inl hi)⟩
theorem op_weight (l : Launch) (G : Gl) {A : Nat → Nat} {m b : Nat} {h : Hp} {S : MM} (H : CI A m h S b) (x : Int32) :
    (∃ (h2 : Hp) (S' : MM) (v : Int32), MRw l G yX11_weight (.code yX11_weight cX11_weight 2 (Option.some Jvm.ClassFile.FieldType.int)) 12 8 200 [.ref (A 0), .int x] h (.inl (some (.int v), h2)) ∧ m_weight S x = some (v, S') ∧ OKr A m h S b h2 S') ∨
    (MRw l G yX11_weight (.code yX11_weight cX11_weight 2 (Option.some Jvm.ClassFile.FieldType.int)) 12 8 200 [.ref (A 0), .int x] h (.inr (xI, h)) ∧ m_weight S x = some (0, u2 S 0 0 1)) := by
  have hok := OKr_0 H
  obtain ⟨D, n, R, Ee, is, ss, ra, pa, Dd, Pl, dP, T, N, O, hl, M, nu, z, len, ky⟩ := H
  have hkH := T.2.1.1.1
  rcases isRule_cs (x := x) N.1.2.1.1 with ⟨r, hr, ex, hi⟩ | ⟨hx, hi⟩
  · subst ex
    obtain ⟨⟨_, _, _, u4, _⟩, _, _, q4, _⟩ := T.2.2.2.2.2.1.2.2 r hr
    refine Or.inl ⟨h, _, hI h fU_weightInAll (ra r), c_weight_ok l G hkH (ru_ok T hr) q4.1, ?_, hok⟩
    rw [m_weight_ok N.1.2.1.1 hr hi, u4]
  · exact Or.inr ⟨c_weight_x1 l G hkH (ru_no T hx), m_weight_no hi⟩
theorem op_value (l : Launch) (G : Gl) {A : Nat → Nat} {m b : Nat} {h : Hp} {S : MM} (H : CI A m h S b) (x c : Int32) :
    (∃ (h2 : Hp) (S' : MM) (v : Int32), MRw l G yX11_value (.code yX11_value cX11_value 4 (Option.some Jvm.ClassFile.FieldType.int)) 12 8 200 [.ref (A 0), .int x, .int c] h (.inl (some (.int v), h2)) ∧ m_value S x c = some (v, S') ∧ OKr A m h S b h2 S') ∨
    (MRw l G yX11_value (.code yX11_value cX11_value 4 (Option.some Jvm.ClassFile.FieldType.int)) 12 8 200 [.ref (A 0), .int x, .int c] h (.inr (xI, h)) ∧ m_value S x c = some (0, u2 S 0 0 1)) := by
  have hok := OKr_0 H
  obtain ⟨D, n, R, Ee, is, ss, ra, pa, Dd, Pl, dP, T, N, O, hl, M, nu, z, len, ky⟩ := H
  have hkH := T.2.1.1.1
  have hS := N.1.1
  rw [m_value_s]
  cases hp : plc S n x with
  | none => exact Or.inr ⟨c_value_x1 l G hkH (el_no T hp), m_valueOf_no hS (Or.inl hp)⟩
  | some p =>
    have hpn := (plc_lt hp).1
    by_cases q : c < 0 ∨ 13 < c
    · exact Or.inr ⟨c_value_x2 l G hkH (el_ok T hp) q, m_valueOf_no hS (Or.inr (in_0 q))⟩
    · obtain ⟨i, hi, ei⟩ := pr_of (hi := 13) (by decide) q
      subst ei
      obtain ⟨y1, _, _, y4, y5⟩ := T.2.2.2.1.2.1 _ (Ee_m (is := is) hpn)
      have hk : LKo h (kpt h (Ee p)) S p := O p hpn
      refine Or.inl ⟨h, _, hA h (vls h (kpt h (Ee p))) i, c_value_ok l G hkH (el_ok T hp) y1 y4 y5 hi, ?_, hok⟩
      rw [m_valueOf_ok hS hp hi, (hk.2.1 i hi).1]
theorem op_from (l : Launch) (G : Gl) {A : Nat → Nat} {m b : Nat} {h : Hp} {S : MM} (H : CI A m h S b) (x c : Int32) :
    (∃ (h2 : Hp) (S' : MM) (v : Int32), MRw l G yX11_from (.code yX11_from cX11_from 4 (Option.some Jvm.ClassFile.FieldType.int)) 12 8 200 [.ref (A 0), .int x, .int c] h (.inl (some (.int v), h2)) ∧ m_from S x c = some (v, S') ∧ OKr A m h S b h2 S') ∨
    (MRw l G yX11_from (.code yX11_from cX11_from 4 (Option.some Jvm.ClassFile.FieldType.int)) 12 8 200 [.ref (A 0), .int x, .int c] h (.inr (xI, h)) ∧ m_from S x c = some (0, u2 S 0 0 1)) := by
  have hok := OKr_0 H
  obtain ⟨D, n, R, Ee, is, ss, ra, pa, Dd, Pl, dP, T, N, O, hl, M, nu, z, len, ky⟩ := H
  have hkH := T.2.1.1.1
  have hS := N.1.1
  cases hp : plc S n x with
  | none => exact Or.inr ⟨c_from_x1 l G hkH (el_no T hp), m_from_no hS (Or.inl hp)⟩
  | some p =>
    have hpn := (plc_lt hp).1
    by_cases q : c < 0 ∨ 13 < c
    · exact Or.inr ⟨c_from_x2 l G hkH (el_ok T hp) q, m_from_no hS (Or.inr (in_0 q))⟩
    · obtain ⟨i, hi, ei⟩ := pr_of (hi := 13) (by decide) q
      subst ei
      obtain ⟨y1, _, _, y4, y5⟩ := T.2.2.2.1.2.1 _ (Ee_m (is := is) hpn)
      have hk : LKo h (kpt h (Ee p)) S p := O p hpn
      refine Or.inl ⟨h, _, hA h (scs h (kpt h (Ee p))) i, c_from_ok l G hkH (el_ok T hp) y1 y4 y5 hi, ?_, hok⟩
      rw [m_from_ok hS hp hi, (hk.2.1 i hi).2]
theorem op_box (l : Launch) (G : Gl) {A : Nat → Nat} {m b : Nat} {h : Hp} {S : MM} (H : CI A m h S b) (x c : Int32) :
    (∃ (h2 : Hp) (S' : MM) (v : Int32), MRw l G yX11_box (.code yX11_box cX11_box 4 (Option.some Jvm.ClassFile.FieldType.int)) 12 8 200 [.ref (A 0), .int x, .int c] h (.inl (some (.int v), h2)) ∧ m_box S x c = some (v, S') ∧ OKr A m h S b h2 S') ∨
    (MRw l G yX11_box (.code yX11_box cX11_box 4 (Option.some Jvm.ClassFile.FieldType.int)) 12 8 200 [.ref (A 0), .int x, .int c] h (.inr (xI, h)) ∧ m_box S x c = some (0, u2 S 0 0 1)) ∨
    (MRw l G yX11_box (.code yX11_box cX11_box 4 (Option.some Jvm.ClassFile.FieldType.int)) 12 8 200 [.ref (A 0), .int x, .int c] h (.inr (xA, h)) ∧ m_box S x c = some (0, u2 S 0 0 2)) := by
  have hok := OKr_0 H
  obtain ⟨D, n, R, Ee, is, ss, ra, pa, Dd, Pl, dP, T, N, O, hl, M, nu, z, len, ky⟩ := H
  have hkH := T.2.1.1.1
  have hS := N.1.1
  rw [m_box_s]
  cases hp : plc S n x with
  | none =>
    refine Or.inr (Or.inl ⟨c_box_x1 l G hkH (el_no T hp), ?_⟩)
    rw [m_boxOf_no hS (Or.inl hp), hp, if_pos rfl]
  | some p =>
    have hpn := (plc_lt hp).1
    by_cases q : c < 0 ∨ 3 < c
    · refine Or.inr (Or.inr ⟨c_box_x2 l G hkH (el_ok T hp) q, ?_⟩)
      rw [m_boxOf_no hS (Or.inr (in_0 q)), hp, if_neg (fun y => by cases y)]
    · obtain ⟨i, hi, ei⟩ := pr_of (hi := 3) (by decide) q
      subst ei
      obtain ⟨y1, _, _, y4, y5⟩ := T.2.2.2.1.2.1 _ (Ee_m (is := is) hpn)
      have hk : LKo h (kpt h (Ee p)) S p := O p hpn
      refine Or.inl ⟨h, _, lme h (kpt h (Ee p)) i, c_box_ok l G hkH (el_ok T hp) y1 y4 y5.1 hi, ?_, hok⟩
      rw [m_boxOf_ok hS hp hi, lme_o hi hk]
theorem op_lines (l : Launch) (G : Gl) {A : Nat → Nat} {m b : Nat} {h : Hp} {S : MM} (H : CI A m h S b) (x : Int32) :
    (∃ (h2 : Hp) (S' : MM) (v : Int32), MRw l G yX11_lines (.code yX11_lines cX11_lines 2 (Option.some Jvm.ClassFile.FieldType.int)) 12 8 200 [.ref (A 0), .int x] h (.inl (some (.int v), h2)) ∧ m_lines S x = some (v, S') ∧ OKr A m h S b h2 S') ∨
    (MRw l G yX11_lines (.code yX11_lines cX11_lines 2 (Option.some Jvm.ClassFile.FieldType.int)) 12 8 200 [.ref (A 0), .int x] h (.inr (xI, h)) ∧ m_lines S x = some (0, u2 S 0 0 1)) := by
  have hok := OKr_0 H
  obtain ⟨D, n, R, Ee, is, ss, ra, pa, Dd, Pl, dP, T, N, O, hl, M, nu, z, len, ky⟩ := H
  have hkH := T.2.1.1.1
  have hS := N.1.1
  cases hp : plc S n x with
  | none => exact Or.inr ⟨c_lines_x1 l G hkH (el_no T hp), m_lines_no hS hp⟩
  | some p =>
    have hpn := (plc_lt hp).1
    obtain ⟨y1, _, _, y4, y5⟩ := T.2.2.2.1.2.1 _ (Ee_m (is := is) hpn)
    have hk : LKo h (kpt h (Ee p)) S p := O p hpn
    refine Or.inl ⟨h, _, hI h fL_lineCount (kpt h (Ee p)), c_lines_ok l G hkH (el_ok T hp) y1 y4 y5.1, ?_, hok⟩
    rw [m_lines_ok hS hp]
    rcases hk.2.2 with ⟨_, _, _, _, _, c5, _, c7⟩ | ⟨_, _, _, _, _, _, c6⟩
    · rw [c5, c7]
    · rw [c6]
theorem op_elements (l : Launch) (G : Gl) {A : Nat → Nat} {m b : Nat} {h : Hp} {S : MM} (H : CI A m h S b) :
    ∃ (h2 : Hp) (S' : MM) (v : Int32), MRw l G yX11_elements (.code yX11_elements cX11_elements 1 (Option.some Jvm.ClassFile.FieldType.int)) 12 8 200 [.ref (A 0)] h (.inl (some (.int v), h2)) ∧ m_elements S = some (v, S') ∧ OKr A m h S b h2 S' := by
  have hok := OKr_0 H
  obtain ⟨D, n, R, Ee, is, ss, ra, pa, Dd, Pl, dP, T, N, O, hl, M, nu, z, len, ky⟩ := H
  obtain ⟨⟨a1, a2, _⟩, ⟨b1, b2, _⟩, _⟩ := T.2.1
  have l7 := T.2.2.1.1
  refine ⟨h, _, hI h fA_size (A 7), c_elements_ok l G a1 a2 b1 b2 l7.1, ?_, hok⟩
  unfold m_elements
  rw [bnd_s, u2_row (by decide), l7.2.1, List.length_map, List.length_range, N.1.1.1]
theorem op_reached (l : Launch) (G : Gl) {A : Nat → Nat} {m b : Nat} {h : Hp} {S : MM} (H : CI A m h S b) :
    ∃ (h2 : Hp) (S' : MM) (v : Int32), MRw l G yX11_reached (.code yX11_reached cX11_reached 1 (Option.some Jvm.ClassFile.FieldType.int)) 12 8 200 [.ref (A 0)] h (.inl (some (.int v), h2)) ∧ m_reached S = some (v, S') ∧ OKr A m h S b h2 S' := by
  have hok := OKr_0 H
  obtain ⟨D, n, R, Ee, is, ss, ra, pa, Dd, Pl, dP, T, N, O, hl, M, nu, z, len, ky⟩ := H
  refine ⟨h, _, hI h fH_lastReached (A 0), c_reached_ok l G T.2.1.1.1, ?_, hok⟩
  unfold m_reached
  rw [bnd_s, u2_row (by decide), hl]
/-- found anew, the class is at rest as before -/
theorem fa_ci (l : Launch) (G : Gl) {A D : Nat → Nat} {m b : Nat} {h : Hp} {S : MM} {n R : Nat} {Ee : Nat → Nat} {is ss : List Nat} {ra : Nat → Nat} {pa : Nat → Nat → Nat} {Dd Pl dP : Nat → Nat} (T : TLD A D m h S n R Ee is ss ra pa Dd Pl dP) (N : TNR S n R) (O : KO h S n some Ee) (hl : hI h fH_lastReached (A 0) = S 33 0) (M : MMH m h S) (nu : NM S n b) (z : ∀ i, 14 * R ≤ i → S 20 i = 0) (len : n + is.length ≤ 24) (ky : KY S n R) :
    ∃ (h2 : Hp) (j : Nat), MRw l G yX11_findAnew (.code yX11_findAnew cX11_findAnew 5 none) 10 j (60 * j) [.ref (A 0)] h (.inl (none, h2)) ∧ j ≤ 3 ∧ OKr A m h S b h2 (u2 S 0 0 0) ∧ ∀ e, e < n → hK h2 (Ee e) = 3 ∧ hR h2 fE_fresh (Ee e) = some (frs h2 (Ee e)) ∧ LW h2 (frs h2 (Ee e)) ∧ (∀ p, p < 14 → hA h2 (vls h2 (frs h2 (Ee e))) p = S 23 (14 * e + p)) ∧ ∀ p, p < 4 → lme h2 (frs h2 (Ee e)) p = S 25 (4 * e + p) := by
  obtain ⟨h2, d', j, Y, hY, hV, MM1, TL2, O2, fz, F, F2, ph, lr, _⟩ := fa_s l G T N O
  obtain ⟨Y0, ky1, ky2, ky3⟩ := ky
  have M2 := MMH_f T.1 F M
  have C2 : CI A m h2 S b := ⟨up9 D d', n, R, Ee, is, ss, ra, pa, Dd, Pl, dP, TL2, N, O2, lr.trans hl, M2, nu, z, len, Y0, ky1, ky2, ky3⟩
  refine ⟨h2, j, MM1, ?_, ⟨u2_self _ _ _ _, CI_0 (Nat.le_refl b) C2, M2, TL2.1, F.1, F.2.2.2.2⟩, fun e he => ?_⟩
  · have : Ph h (D 9) ≤ 3 := by
      unfold Ph
      split
      · omega
      · split
        · omega
        · split <;> omega
    omega
  · obtain ⟨f1, f2, f3⟩ := fz e he
    obtain ⟨gv, ge⟩ := LE_u N.1 hY hV ky1 ky2 he (ky3 e he)
    exact ⟨(TL2.2.2.2.1.2.1 _ (Ee_m (is := is) he)).1, f1, f2, fun p hp => ((f3.1 p hp).1).trans (gv p hp).1.symm, fun p hp => lme_z hp f3 ge⟩
theorem op_valueAnew (l : Launch) (G : Gl) {A : Nat → Nat} {m b : Nat} {h : Hp} {S : MM} (H : CI A m h S b) (x c : Int32) :
    (∃ (h2 : Hp) (S' : MM) (v : Int32), MRw l G yX11_valueAnew (.code yX11_valueAnew cX11_valueAnew 4 (Option.some Jvm.ClassFile.FieldType.int)) 12 8 200 [.ref (A 0), .int x, .int c] h (.inl (some (.int v), h2)) ∧ m_valueAnew S x c = some (v, S') ∧ OKr A m h S b h2 S') ∨
    (MRw l G yX11_valueAnew (.code yX11_valueAnew cX11_valueAnew 4 (Option.some Jvm.ClassFile.FieldType.int)) 12 8 200 [.ref (A 0), .int x, .int c] h (.inr (xI, h)) ∧ m_valueAnew S x c = some (0, u2 S 0 0 1)) := by
  obtain ⟨D, n, R, Ee, is, ss, ra, pa, Dd, Pl, dP, T, N, O, hl, M, nu, z, len, ky⟩ := H
  have hkH := T.2.1.1.1
  have hS := N.1.1
  rw [m_valueAnew_s]
  cases hp : plc S n x with
  | none => exact Or.inr ⟨c_valueAnew_x1 l G hkH (el_no T hp), m_valueOf_no hS (Or.inl hp)⟩
  | some p =>
    have hpn := (plc_lt hp).1
    by_cases q : c < 0 ∨ 13 < c
    · exact Or.inr ⟨c_valueAnew_x2 l G hkH (el_ok T hp) q, m_valueOf_no hS (Or.inr (in_0 q))⟩
    · obtain ⟨i, hi, ei⟩ := pr_of (hi := 13) (by decide) q
      subst ei
      obtain ⟨h2, j, Mf, hj, ok, ff⟩ := fa_ci l G (b := b) T N O hl M nu z len ky
      obtain ⟨f0, f1, f2, f3, f4⟩ := ff p hpn
      refine Or.inl ⟨h2, _, hA h2 (vls h2 (frs h2 (Ee p))) i, c_valueAnew_ok l G hkH (el_ok T hp) Mf hj f0 f1 f2 hi, ?_, ok⟩
      rw [m_valueOf_ok hS hp hi, f3 i hi]
theorem op_boxAnew (l : Launch) (G : Gl) {A : Nat → Nat} {m b : Nat} {h : Hp} {S : MM} (H : CI A m h S b) (x c : Int32) :
    (∃ (h2 : Hp) (S' : MM) (v : Int32), MRw l G yX11_boxAnew (.code yX11_boxAnew cX11_boxAnew 4 (Option.some Jvm.ClassFile.FieldType.int)) 12 8 200 [.ref (A 0), .int x, .int c] h (.inl (some (.int v), h2)) ∧ m_boxAnew S x c = some (v, S') ∧ OKr A m h S b h2 S') ∨
    (MRw l G yX11_boxAnew (.code yX11_boxAnew cX11_boxAnew 4 (Option.some Jvm.ClassFile.FieldType.int)) 12 8 200 [.ref (A 0), .int x, .int c] h (.inr (xI, h)) ∧ m_boxAnew S x c = some (0, u2 S 0 0 1)) ∨
    (MRw l G yX11_boxAnew (.code yX11_boxAnew cX11_boxAnew 4 (Option.some Jvm.ClassFile.FieldType.int)) 12 8 200 [.ref (A 0), .int x, .int c] h (.inr (xA, h)) ∧ m_boxAnew S x c = some (0, u2 S 0 0 2)) := by
  obtain ⟨D, n, R, Ee, is, ss, ra, pa, Dd, Pl, dP, T, N, O, hl, M, nu, z, len, ky⟩ := H
  have hkH := T.2.1.1.1
  have hS := N.1.1
  rw [m_boxAnew_s]
  cases hp : plc S n x with
  | none =>
    refine Or.inr (Or.inl ⟨c_boxAnew_x1 l G hkH (el_no T hp), ?_⟩)
    rw [m_boxOf_no hS (Or.inl hp), hp, if_pos rfl]
  | some p =>
    have hpn := (plc_lt hp).1
    by_cases q : c < 0 ∨ 3 < c
    · refine Or.inr (Or.inr ⟨c_boxAnew_x2 l G hkH (el_ok T hp) q, ?_⟩)
      rw [m_boxOf_no hS (Or.inr (in_0 q)), hp, if_neg (fun y => by cases y)]
    · obtain ⟨i, hi, ei⟩ := pr_of (hi := 3) (by decide) q
      subst ei
      obtain ⟨h2, j, Mf, hj, ok, ff⟩ := fa_ci l G (b := b) T N O hl M nu z len ky
      obtain ⟨f0, f1, f2, f3, f4⟩ := ff p hpn
      refine Or.inl ⟨h2, _, lme h2 (frs h2 (Ee p)) i, c_boxAnew_ok l G hkH (el_ok T hp) Mf hj f0 f1 f2.1 hi, ?_, ok⟩
      rw [m_boxOf_ok hS hp hi, f4 i hi]
