/-! ===== the model's calls: declare, say, refer, empty; those that only read ===== -/
theorem m_declare_s {S : MM} {x y v : Int32} : m_declare S x y v = m_declares S x y (if m_canBe y v = 0 then if (2 : Int32) < y then 0 else if v = -2 then 1 else 0 else 1) 1 v (-1) := by
  unfold m_declare
  rw [bnd_s]
  cases m_declares S x y (if m_canBe y v = 0 then if (2 : Int32) < y then 0 else if v = -2 then 1 else 0 else 1) 1 v (-1) <;> rfl
theorem m_say_s {S : MM} {x y v : Int32} : m_say S x y v = m_declares S x y (m_in v 0 3) 2 v (-1) := by
  unfold m_say
  cases m_declares S x y (m_in v 0 3) 2 v (-1) <;> rfl
theorem m_refer_s {S : MM} {x y u f : Int32} : m_refer S x y u f = m_declares S x y (if m_in u 0 3 = 0 then 0 else if f = -1 then 1 else if m_canBe y f = 0 then 0 else 1) 3 u f := by
  unfold m_refer
  rw [bnd_s]
  cases m_declares S x y (if m_in u 0 3 = 0 then 0 else if f = -1 then 1 else if m_canBe y f = 0 then 0 else 1) 3 u f <;> rfl
/-! empty -/
def tEmp (S : MM) (r k : Nat) : MM := fun a b => if a = 20 ∧ 14 * r ≤ b ∧ b < 14 * r + k then 0 else S a b
theorem tEmp_0 (S : MM) (r : Nat) : tEmp S r 0 = S := by
  funext a b
  exact if_neg (fun z => by omega)
theorem tEmp_s (S : MM) (r k : Nat) : u2 (tEmp S r k) 20 (14 * r + k) 0 = tEmp S r (k + 1) := by
  funext a b
  unfold u2 tEmp
  by_cases q : a = 20 ∧ b = 14 * r + k
  · rw [if_pos q, if_pos ⟨q.1, by omega, by omega⟩]
  · rw [if_neg q]
    by_cases z : a = 20 ∧ 14 * r ≤ b ∧ b < 14 * r + k
    · rw [if_pos z, if_pos ⟨z.1, z.2.1, by omega⟩]
    · rw [if_neg z, if_neg (fun y => z ⟨y.1, y.2.1, by
        have : b ≠ 14 * r + k := fun w => q ⟨y.1, w⟩
        omega⟩)]
theorem emp26 {S : MM} {r : Nat} {K : MM → Option (Int32 × MM)} (hr : r < 16) : m_empty_26 K (nI r) 1000 0 S = K (tEmp S r 14) := by
  obtain ⟨s, i1, e1⟩ := lp_0 (σ := MM) (α := Option (Int32 × MM)) (L := fun K fu k s => m_empty_26 K (nI r) fu (nI k) s) (n := 14)
    (Inv := fun k s => s = tEmp S r k)
    (fun K fu s hi => by
      show m_empty_26 K (nI r) (fu + 1) (nI 14) s = K s
      rw [m_empty_26, if_pos (by decide)])
    (fun fu k s hk hi => by
      refine ⟨_, rfl, fun K => ?_⟩
      show m_empty_26 K (nI r) (fu + 1) (nI k) s = m_empty_26 K (nI r) fu (nI (k + 1)) (tEmp S r (k + 1))
      rw [m_empty_26, if_neg (n14 hk), nx14, nI_add, if_pos (ix_nI (by omega) (by omega)), tn_nI (by omega), bnd_s, hi, tEmp_s, nI_1])
    (fu := 1000) (s := S) (by omega) (tEmp_0 S r).symm
  rw [nI_0] at e1
  rw [e1 K, i1]
theorem m_empty_ok {S Y : MM} {n R r : Nat} (h : TOLD S n R) (hN : NI S n) (hr : r < R) (hi : m_isRule S (nI r) = 1) (hT : TOLD (tEmp S r 14) n R) (hY : LE (tEmp S r 14) Y n R) (hV : VR Y n) : ∃ S' : MM, m_empty S (nI r) = some (nI (cn (dclS S r) 14), S') ∧ MR S (tEmp S r 14) Y n some 0 S' := by
  have h16 := h.2.1.1.2.1
  obtain ⟨Sk, e, hk⟩ := keeps_p h.1
  have o : ∀ i, i ≠ 20 → tEmp Sk r 14 i = Sk i := fun i hi => funext fun j => if_neg (fun z => hi z.1)
  obtain ⟨S', e2, hM⟩ := ms_op0 h hN hk hT (T := tEmp S r 14) (Tk := tEmp Sk r 14) (by
    funext j
    exact if_neg (fun z => absurd z.1 (by decide))) (fun i i1 i2 => by
    funext j
    unfold tEmp
    rw [KF_r hk ⟨i1, by omega⟩]) (fun i i1 _ => o i (by omega)) (by
    rw [o 0 (by decide)]
    exact hk.2.2.2.2.1) hY hV
  refine ⟨S', ?_, hM⟩
  unfold m_empty
  have ed : m_declared Sk (nI r) = some (nI (cn (dclS S r) 14)) := by
    rw [declared_s (by omega), cn_c 14 (fun p _ => by
      unfold dclS
      rw [KF_r hk ⟨by decide, by decide⟩])]
    rfl
  rw [hi, asked_1, bd2_s, if_10, e, bd_s, ed, bd_s, emp26 (by omega), bnd_s, e2, bd_s]
theorem m_empty_no {S : MM} {x : Int32} (hi : m_isRule S x = 0) : m_empty S x = some (0, u2 S 0 0 1) := by
  unfold m_empty
  rw [hi, asked_0, bd2_s, if_00]
/-! those that only read -/
theorem TS_0 {S : MM} {n : Nat} {v : Int32} (h : TS S n) : TS (u2 S 0 0 v) n := TS_c (S := S) (fun k h1 _ => by funext j; rw [u2_row (by omega)]) h
theorem m_fits_ok {S : MM} {n r p : Nat} {x : Int32} (h : TS S n) (hr : r < 16) (hi : m_isRule S (nI r) = 1) (hp : plc S n x = some p) : ∃ v : Int32, m_fits S (nI r) x = some (v, u2 S 0 0 0) ∧ (v = 1 ↔ fitS S n r p) ∧ (v = 0 ∨ v = 1) := by
  have hpn := (plc_lt hp).1
  have h24 := h.2.2.1
  obtain ⟨v, e, h1, h2⟩ := isFit_s (TS_0 (v := 0) h) hpn hr
  have hf : fitS (u2 S 0 0 0) = fitS S := fitS_c (S := S) (fun k h1 _ => by funext j; rw [u2_row (by omega)])
  rw [hf] at h1
  refine ⟨v, ?_, h1, h2⟩
  unfold m_fits
  rw [placeOf_p h, hp, bd_s, plI_s, hi, if_10, p1_if (by omega), bnd_s, asked_1, bd2_s, if_10, e, bd_s]
  rcases h2 with z | z
  · rw [z]; rfl
  · rw [z]; rfl
theorem m_fits_no {S : MM} {n : Nat} {x y : Int32} (h : TS S n) (hq : m_isRule S y = 0 ∨ plc S n x = none) : m_fits S y x = some (0, u2 S 0 0 1) := by
  unfold m_fits
  rw [placeOf_p h, bd_s]
  have : (if m_isRule S y = 0 then (0 : Int32) else if plI (plc S n x) = -1 then 0 else 1) = 0 := by
    by_cases q : m_isRule S y = 0
    · rw [if_pos q]
    · rw [if_neg q, hq.resolve_left q, plI_0, if_pos rfl]
  rw [this, bnd_s, asked_0, bd2_s, if_00]
theorem m_weight_ok {S : MM} {R r : Nat} (h : RSo S R) (hr : r < R) (hi : m_isRule S (nI r) = 1) : m_weight S (nI r) = some (wS S r, u2 S 0 0 0) := by
  unfold m_weight
  have g : TG S (u2 S 0 0 0) := fun k h1 _ => by funext j; rw [u2_row (by omega)]
  have h' : RSo (u2 S 0 0 0) R := by
    unfold RSo at *
    rw [g 10 (by decide) (by decide), g 11 (by decide) (by decide), g 14 (by decide) (by decide), g 15 (by decide) (by decide)]
    exact h
  rw [hi, asked_1, bd2_s, if_10, weightOf_s h' hr, bd_s]
  show some (wS (u2 S 0 0 0) r, _) = _
  rw [wS_c g]
theorem m_weight_no {S : MM} {x : Int32} (hi : m_isRule S x = 0) : m_weight S x = some (0, u2 S 0 0 1) := by
  unfold m_weight
  rw [hi, asked_0, bd2_s, if_00]
theorem m_valueOf_ok {S : MM} {n p q : Nat} {x : Int32} (h : TS S n) (hp : plc S n x = some p) (hq : q < 14) : m_valueOf S x (nI q) = some (S 23 (14 * p + q), u2 S 0 0 0) := by
  have hpn := (plc_lt hp).1
  have h24 := h.2.2.1
  unfold m_valueOf
  rw [placeOf_p h, hp, bd_s, plI_s, if_neg (nI_ne (show p < 24 by omega)), in_1 (x := nI q) (lo := 0) (hi := 13) (fun z => z.elim (nI_pos (by omega)) (fun y => absurd (show nI 13 < nI q from y) (nI_nlt (by omega) (by decide)))), if_10, bnd_s, asked_1, bd2_s, if_pos (fun _ => og_n rfl (by omega) hq), if_10, of_n rfl (by omega) hq, u2_row (by decide)]
theorem m_valueOf_no {S : MM} {n : Nat} {x y : Int32} (h : TS S n) (hq : plc S n x = none ∨ m_in y 0 13 = 0) : m_valueOf S x y = some (0, u2 S 0 0 1) := by
  unfold m_valueOf
  rw [placeOf_p h, bd_s]
  have : (if plI (plc S n x) = -1 then (0 : Int32) else if m_in y 0 13 = 0 then 0 else 1) = 0 := by
    by_cases q : plI (plc S n x) = -1
    · rw [if_pos q]
    · rw [if_neg q, if_pos (hq.resolve_left (fun z => q (by rw [z]; rfl)))]
  rw [this, bnd_s, asked_0, bd2_s, if_pos (fun z => absurd rfl z), if_00]
theorem m_value_s {S : MM} {x y : Int32} : m_value S x y = m_valueOf S x y := by
  unfold m_value
  cases m_valueOf S x y <;> rfl
theorem m_valueAnew_s {S : MM} {x y : Int32} : m_valueAnew S x y = m_valueOf S x y := by
  unfold m_valueAnew
  cases m_valueOf S x y <;> rfl
theorem m_from_ok {S : MM} {n p q : Nat} {x : Int32} (h : TS S n) (hp : plc S n x = some p) (hq : q < 14) : m_from S x (nI q) = some (S 24 (14 * p + q), u2 S 0 0 0) := by
  have hpn := (plc_lt hp).1
  have h24 := h.2.2.1
  unfold m_from
  rw [placeOf_p h, hp, bd_s, plI_s, if_neg (nI_ne (show p < 24 by omega)), in_1 (x := nI q) (lo := 0) (hi := 13) (fun z => z.elim (nI_pos (by omega)) (fun y => absurd (show nI 13 < nI q from y) (nI_nlt (by omega) (by decide)))), if_10, bnd_s, asked_1, bd2_s, nx14, nI_add, if_pos (fun _ => ix_nI (by omega) (by omega)), if_10, tn_nI (by omega), u2_row (by decide)]
theorem m_from_no {S : MM} {n : Nat} {x y : Int32} (h : TS S n) (hq : plc S n x = none ∨ m_in y 0 13 = 0) : m_from S x y = some (0, u2 S 0 0 1) := by
  unfold m_from
  rw [placeOf_p h, bd_s]
  have : (if plI (plc S n x) = -1 then (0 : Int32) else if m_in y 0 13 = 0 then 0 else 1) = 0 := by
    by_cases q : plI (plc S n x) = -1
    · rw [if_pos q]
    · rw [if_neg q, if_pos (hq.resolve_left (fun z => q (by rw [z]; rfl)))]
  rw [this, bnd_s, asked_0, bd2_s, if_pos (fun z => absurd rfl z), if_00]
theorem m_boxOf_ok {S : MM} {n p q : Nat} {x : Int32} (h : TS S n) (hp : plc S n x = some p) (hq : q < 4) : m_boxOf S x (nI q) = some (S 25 (4 * p + q), u2 S 0 0 0) := by
  have hpn := (plc_lt hp).1
  have h24 := h.2.2.1
  unfold m_boxOf
  rw [placeOf_p h, hp, bd_s, plI_s, p1_if (by omega), bnd_s, asked1_s, in_1 (x := nI q) (lo := 0) (hi := 3) (fun z => z.elim (nI_pos (by omega)) (fun y => absurd (show nI 3 < nI q from y) (nI_nlt (by omega) (by decide)))), c2_ok rfl rfl, if_00, bd2_s, nx4, nI_add, if_pos (fun _ => ix_nI (by omega) (by omega)), if_10, tn_nI (by omega), u2_row (by decide)]
theorem m_boxOf_no {S : MM} {n : Nat} {x y : Int32} (h : TS S n) (hq : plc S n x = none ∨ m_in y 0 3 = 0) : m_boxOf S x y = some (0, u2 S 0 0 (if plc S n x = none then 1 else 2)) := by
  have h24 := h.2.2.1
  unfold m_boxOf
  rw [placeOf_p h, bd_s]
  cases hc : plc S n x with
  | none =>
    rw [plI_0, p0_if, bnd_s, asked1_s]
    unfold c2
    rw [if_00, if_neg (show ¬ (1 : Int32) = 0 by decide), bd2_s, if_pos (fun z => absurd rfl z), if_00, if_pos rfl]
  | some p =>
    have hpn := (plc_lt hc).1
    rw [plI_s, p1_if (by omega), bnd_s, asked1_s, hq.resolve_left (fun z => by rw [hc] at z; cases z)]
    unfold c2
    rw [if_10, if_00, if_neg (show ¬ (2 : Int32) = 0 by decide), bd2_s, if_pos (fun z => absurd rfl z), if_00, if_neg (fun z => by cases z)]
theorem m_box_s {S : MM} {x y : Int32} : m_box S x y = m_boxOf S x y := by
  unfold m_box
  cases m_boxOf S x y <;> rfl
theorem m_boxAnew_s {S : MM} {x y : Int32} : m_boxAnew S x y = m_boxOf S x y := by
  unfold m_boxAnew
  cases m_boxOf S x y <;> rfl
theorem m_lines_ok {S : MM} {n p : Nat} {x : Int32} (h : TS S n) (hp : plc S n x = some p) : m_lines S x = some (S 26 p, u2 S 0 0 0) := by
  have hpn := (plc_lt hp).1
  have h24 := h.2.2.1
  unfold m_lines
  rw [placeOf_p h, hp, bd_s, plI_s, p1_if (by omega), bnd_s, asked_1, bd2_s, if_pos (fun _ => ix_nI (by omega) (by omega)), if_10, tn_nI (by omega), u2_row (by decide)]
theorem m_lines_no {S : MM} {n : Nat} {x : Int32} (h : TS S n) (hq : plc S n x = none) : m_lines S x = some (0, u2 S 0 0 1) := by
  unfold m_lines
  rw [placeOf_p h, bd_s, hq, plI_0, p0_if, bnd_s, asked_0, bd2_s, if_pos (fun z => absurd rfl z), if_00]
