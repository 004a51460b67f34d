/-! ===== CascadeHouse: the checks ===== -/
theorem c_checkRange (l : Launch) (G : Gl) {h : Hp} {x lo hi : Int32} : MRw l G yX11_checkRange (.code yX11_checkRange cX11_checkRange 3 none) 8 1 6 [.int x, .int lo, .int hi] h (if x < lo ∨ hi < x then .inr (xA, h) else .inl (none, h)) := by
  refine mr_of (by decide +kernel) (Nat.le_of_ble_eq_true rfl) (ct3 (by first | rfl | exact isR_cat (isR_rf _)) (by first | rfl | exact isR_cat (isR_rf _)) (by first | rfl | exact isR_cat (isR_rf _))) (fun X hG hl C E => ?_)
  subst hG hl
  refine r_iload_n (i := 0) C dX11_checkRange_0 rfl rfl ?_
  refine r_iload_n (i := 1) C dX11_checkRange_1 rfl rfl ?_
  refine r_ic_lt (tgt := 10) C dX11_checkRange_2 (by decide) (fun c_2 => ?_) (fun c_2 => ?_)
  · rw [if_pos (Or.inl c_2)] at E
    exact r_throw (tx := "an argument is out of its range") C E rfl rfl (by decide +kernel) c_X11_91 w_xA (by decide +kernel) (by decide +kernel) at_A rfl (Nat.le_of_ble_eq_true rfl) dX11_checkRange_10 dX11_checkRange_13 dX11_checkRange_14 dX11_checkRange_16 dX11_checkRange_19 (by first | exact Nat.le_refl _ | exact Nat.le_of_ble_eq_true rfl | omega) (by first | exact Nat.le_refl _ | exact Nat.le_of_ble_eq_true rfl | omega) (by first | exact Nat.le_refl _ | exact Nat.le_of_ble_eq_true rfl | omega) (by first | exact Nat.le_refl _ | exact Nat.le_of_ble_eq_true rfl | omega) (by first | exact Nat.le_refl _ | exact Nat.le_of_ble_eq_true rfl | omega)
  · refine r_iload_n (i := 0) C dX11_checkRange_5 rfl rfl ?_
    refine r_iload_n (i := 2) C dX11_checkRange_6 rfl rfl ?_
    refine r_ic_le (tgt := 20) C dX11_checkRange_7 (by decide) (fun c_7 => ?_) (fun c_7 => ?_)
    · rw [if_neg (fun z => z.elim c_2 (fun y => Int32.not_lt.mpr c_7 y))] at E
      exact r_vret C E dX11_checkRange_20 rfl (Nat.zero_le _) (Nat.zero_le _)
    · rw [if_pos (Or.inr (Int32.not_le.mp c_7))] at E
      exact r_throw (tx := "an argument is out of its range") C E rfl rfl (by decide +kernel) c_X11_91 w_xA (by decide +kernel) (by decide +kernel) at_A rfl (Nat.le_of_ble_eq_true rfl) dX11_checkRange_10 dX11_checkRange_13 dX11_checkRange_14 dX11_checkRange_16 dX11_checkRange_19 (by first | exact Nat.le_refl _ | exact Nat.le_of_ble_eq_true rfl | omega) (by first | exact Nat.le_refl _ | exact Nat.le_of_ble_eq_true rfl | omega) (by first | exact Nat.le_refl _ | exact Nat.le_of_ble_eq_true rfl | omega) (by first | exact Nat.le_refl _ | exact Nat.le_of_ble_eq_true rfl | omega) (by first | exact Nat.le_refl _ | exact Nat.le_of_ble_eq_true rfl | omega)
theorem c_checkProperty (l : Launch) (G : Gl) {h : Hp} {x hi : Int32} : MRw l G yX11_checkProperty (.code yX11_checkProperty cX11_checkProperty 2 none) 8 1 6 [.int x, .int hi] h (if x < 0 ∨ hi < x then .inr (xI, h) else .inl (none, h)) := by
  refine mr_of (by decide +kernel) (Nat.le_of_ble_eq_true rfl) (ct2 (by first | rfl | exact isR_cat (isR_rf _)) (by first | rfl | exact isR_cat (isR_rf _))) (fun X hG hl C E => ?_)
  subst hG hl
  refine r_iload_n (i := 0) C dX11_checkProperty_0 rfl rfl ?_
  refine r_if_lt (tgt := 9) C dX11_checkProperty_1 (by decide) (fun c_1 => ?_) (fun c_1 => ?_)
  · rw [if_pos (Or.inl c_1)] at E
    exact r_throw (tx := "there is no such property") C E rfl rfl (by decide +kernel) c_X11_207 w_xI (by decide +kernel) (by decide +kernel) at_I rfl (Nat.le_of_ble_eq_true rfl) dX11_checkProperty_9 dX11_checkProperty_12 dX11_checkProperty_13 dX11_checkProperty_15 dX11_checkProperty_18 (by first | exact Nat.le_refl _ | exact Nat.le_of_ble_eq_true rfl | omega) (by first | exact Nat.le_refl _ | exact Nat.le_of_ble_eq_true rfl | omega) (by first | exact Nat.le_refl _ | exact Nat.le_of_ble_eq_true rfl | omega) (by first | exact Nat.le_refl _ | exact Nat.le_of_ble_eq_true rfl | omega) (by first | exact Nat.le_refl _ | exact Nat.le_of_ble_eq_true rfl | omega)
  · refine r_iload_n (i := 0) C dX11_checkProperty_4 rfl rfl ?_
    refine r_iload_n (i := 1) C dX11_checkProperty_5 rfl rfl ?_
    refine r_ic_le (tgt := 19) C dX11_checkProperty_6 (by decide) (fun c_6 => ?_) (fun c_6 => ?_)
    · rw [if_neg (fun z => z.elim c_1 (fun y => Int32.not_lt.mpr c_6 y))] at E
      exact r_vret C E dX11_checkProperty_19 rfl (Nat.zero_le _) (Nat.zero_le _)
    · rw [if_pos (Or.inr (Int32.not_le.mp c_6))] at E
      exact r_throw (tx := "there is no such property") C E rfl rfl (by decide +kernel) c_X11_207 w_xI (by decide +kernel) (by decide +kernel) at_I rfl (Nat.le_of_ble_eq_true rfl) dX11_checkProperty_9 dX11_checkProperty_12 dX11_checkProperty_13 dX11_checkProperty_15 dX11_checkProperty_18 (by first | exact Nat.le_refl _ | exact Nat.le_of_ble_eq_true rfl | omega) (by first | exact Nat.le_refl _ | exact Nat.le_of_ble_eq_true rfl | omega) (by first | exact Nat.le_refl _ | exact Nat.le_of_ble_eq_true rfl | omega) (by first | exact Nat.le_refl _ | exact Nat.le_of_ble_eq_true rfl | omega) (by first | exact Nat.le_refl _ | exact Nat.le_of_ble_eq_true rfl | omega)
/-- a part's arguments are in their ranges -/
def ptOk (t a b : Int32) : Prop := ¬ (t < -1 ∨ 5 < t) ∧ ¬ (a < 0 ∨ 255 < a) ∧ ¬ (b < 0 ∨ 255 < b)
theorem cR_ok {l : Launch} {G : Gl} {h : Hp} {x lo hi : Int32} (q : ¬ (x < lo ∨ hi < x)) : MRw l G yX11_checkRange (.code yX11_checkRange cX11_checkRange 3 none) 8 1 6 [.int x, .int lo, .int hi] h (.inl (none, h)) := by
  have := c_checkRange l G (h := h) (x := x) (lo := lo) (hi := hi)
  rw [if_neg q] at this
  exact this
theorem cR_no {l : Launch} {G : Gl} {h : Hp} {x lo hi : Int32} (q : x < lo ∨ hi < x) : MRw l G yX11_checkRange (.code yX11_checkRange cX11_checkRange 3 none) 8 1 6 [.int x, .int lo, .int hi] h (.inr (xA, h)) := by
  have := c_checkRange l G (h := h) (x := x) (lo := lo) (hi := hi)
  rw [if_pos q] at this
  exact this
theorem cP_ok {l : Launch} {G : Gl} {h : Hp} {x hi : Int32} (q : ¬ (x < 0 ∨ hi < x)) : MRw l G yX11_checkProperty (.code yX11_checkProperty cX11_checkProperty 2 none) 8 1 6 [.int x, .int hi] h (.inl (none, h)) := by
  have := c_checkProperty l G (h := h) (x := x) (hi := hi)
  rw [if_neg q] at this
  exact this
theorem cP_no {l : Launch} {G : Gl} {h : Hp} {x hi : Int32} (q : x < 0 ∨ hi < x) : MRw l G yX11_checkProperty (.code yX11_checkProperty cX11_checkProperty 2 none) 8 1 6 [.int x, .int hi] h (.inr (xI, h)) := by
  have := c_checkProperty l G (h := h) (x := x) (hi := hi)
  rw [if_pos q] at this
  exact this
theorem cPt_ok (l : Launch) (G : Gl) {h : Hp} {t a b : Int32} (q : ptOk t a b) : MRw l G yX11_checkPart (.code yX11_checkPart cX11_checkPart 3 none) 9 3 18 [.int t, .int a, .int b] h (.inl (none, h)) := by
  obtain ⟨q1, q2, q3⟩ := q
  refine mr_of (by decide +kernel) (Nat.le_of_ble_eq_true rfl) (ct3 (by first | rfl | exact isR_cat (isR_rf _)) (by first | rfl | exact isR_cat (isR_rf _)) (by first | rfl | exact isR_cat (isR_rf _))) (fun X hG hl C E => ?_)
  subst hG hl
  refine r_iload_n (i := 0) C dX11_checkPart_0 rfl rfl ?_
  refine r_iconst (v := (-1)) C dX11_checkPart_1 (by decide) ?_
  refine r_iconst (v := 5) C dX11_checkPart_2 (by decide) ?_
  refine r_callSn C s_X11_47 (cR_ok q1) dX11_checkPart_3 (As := [_, _, _]) rfl rfl rfl (by first | exact Nat.le_refl _ | exact Nat.le_of_ble_eq_true rfl | omega) (Nat.le_of_ble_eq_true rfl) (by first | exact Nat.le_refl _ | exact Nat.le_of_ble_eq_true rfl | omega) (by first | exact Nat.le_refl _ | exact Nat.le_of_ble_eq_true rfl | omega) ?_
  refine r_iload_n (i := 1) C dX11_checkPart_6 rfl rfl ?_
  refine r_iconst (v := 0) C dX11_checkPart_7 (by decide) ?_
  refine r_sipush (v := 255) C dX11_checkPart_8 (by decide) ?_
  refine r_callSn C s_X11_47 (cR_ok q2) dX11_checkPart_11 (As := [_, _, _]) rfl rfl rfl (by first | exact Nat.le_refl _ | exact Nat.le_of_ble_eq_true rfl | omega) (Nat.le_of_ble_eq_true rfl) (by first | exact Nat.le_refl _ | exact Nat.le_of_ble_eq_true rfl | omega) (by first | exact Nat.le_refl _ | exact Nat.le_of_ble_eq_true rfl | omega) ?_
  refine r_iload_n (i := 2) C dX11_checkPart_14 rfl rfl ?_
  refine r_iconst (v := 0) C dX11_checkPart_15 (by decide) ?_
  refine r_sipush (v := 255) C dX11_checkPart_16 (by decide) ?_
  refine r_callSn C s_X11_47 (cR_ok q3) dX11_checkPart_19 (As := [_, _, _]) rfl rfl rfl (by first | exact Nat.le_refl _ | exact Nat.le_of_ble_eq_true rfl | omega) (Nat.le_of_ble_eq_true rfl) (by first | exact Nat.le_refl _ | exact Nat.le_of_ble_eq_true rfl | omega) (by first | exact Nat.le_refl _ | exact Nat.le_of_ble_eq_true rfl | omega) ?_
  exact r_vret C E dX11_checkPart_22 rfl (by first | exact Nat.le_refl _ | exact Nat.le_of_ble_eq_true rfl | omega) (by first | exact Nat.le_refl _ | exact Nat.le_of_ble_eq_true rfl | omega)
theorem cPt_no (l : Launch) (G : Gl) {h : Hp} {t a b : Int32} (q : ¬ ptOk t a b) : MRw l G yX11_checkPart (.code yX11_checkPart cX11_checkPart 3 none) 9 3 18 [.int t, .int a, .int b] h (.inr (xA, h)) := by
  refine mr_of (by decide +kernel) (Nat.le_of_ble_eq_true rfl) (ct3 (by first | rfl | exact isR_cat (isR_rf _)) (by first | rfl | exact isR_cat (isR_rf _)) (by first | rfl | exact isR_cat (isR_rf _))) (fun X hG hl C E => ?_)
  subst hG hl
  refine r_iload_n (i := 0) C dX11_checkPart_0 rfl rfl ?_
  refine r_iconst (v := (-1)) C dX11_checkPart_1 (by decide) ?_
  refine r_iconst (v := 5) C dX11_checkPart_2 (by decide) ?_
  by_cases q1 : t < -1 ∨ 5 < t
  · exact r_callSx C s_X11_47 (cR_no q1) dX11_checkPart_3 (As := [_, _, _]) rfl rfl rfl (by first | exact Nat.le_refl _ | exact Nat.le_of_ble_eq_true rfl | omega) (Nat.le_of_ble_eq_true rfl) (by first | exact Nat.le_refl _ | exact Nat.le_of_ble_eq_true rfl | omega) (by first | exact Nat.le_refl _ | exact Nat.le_of_ble_eq_true rfl | omega) E rfl (by first | exact Nat.le_refl _ | exact Nat.le_of_ble_eq_true rfl | omega) (by first | exact Nat.le_refl _ | exact Nat.le_of_ble_eq_true rfl | omega)
  · refine r_callSn C s_X11_47 (cR_ok q1) dX11_checkPart_3 (As := [_, _, _]) rfl rfl rfl (by first | exact Nat.le_refl _ | exact Nat.le_of_ble_eq_true rfl | omega) (Nat.le_of_ble_eq_true rfl) (by first | exact Nat.le_refl _ | exact Nat.le_of_ble_eq_true rfl | omega) (by first | exact Nat.le_refl _ | exact Nat.le_of_ble_eq_true rfl | omega) ?_
    refine r_iload_n (i := 1) C dX11_checkPart_6 rfl rfl ?_
    refine r_iconst (v := 0) C dX11_checkPart_7 (by decide) ?_
    refine r_sipush (v := 255) C dX11_checkPart_8 (by decide) ?_
    by_cases q2 : a < 0 ∨ 255 < a
    · exact r_callSx C s_X11_47 (cR_no q2) dX11_checkPart_11 (As := [_, _, _]) rfl rfl rfl (by first | exact Nat.le_refl _ | exact Nat.le_of_ble_eq_true rfl | omega) (Nat.le_of_ble_eq_true rfl) (by first | exact Nat.le_refl _ | exact Nat.le_of_ble_eq_true rfl | omega) (by first | exact Nat.le_refl _ | exact Nat.le_of_ble_eq_true rfl | omega) E rfl (by first | exact Nat.le_refl _ | exact Nat.le_of_ble_eq_true rfl | omega) (by first | exact Nat.le_refl _ | exact Nat.le_of_ble_eq_true rfl | omega)
    · refine r_callSn C s_X11_47 (cR_ok q2) dX11_checkPart_11 (As := [_, _, _]) rfl rfl rfl (by first | exact Nat.le_refl _ | exact Nat.le_of_ble_eq_true rfl | omega) (Nat.le_of_ble_eq_true rfl) (by first | exact Nat.le_refl _ | exact Nat.le_of_ble_eq_true rfl | omega) (by first | exact Nat.le_refl _ | exact Nat.le_of_ble_eq_true rfl | omega) ?_
      refine r_iload_n (i := 2) C dX11_checkPart_14 rfl rfl ?_
      refine r_iconst (v := 0) C dX11_checkPart_15 (by decide) ?_
      refine r_sipush (v := 255) C dX11_checkPart_16 (by decide) ?_
      by_cases q3 : b < 0 ∨ 255 < b
      · exact r_callSx C s_X11_47 (cR_no q3) dX11_checkPart_19 (As := [_, _, _]) rfl rfl rfl (by first | exact Nat.le_refl _ | exact Nat.le_of_ble_eq_true rfl | omega) (Nat.le_of_ble_eq_true rfl) (by first | exact Nat.le_refl _ | exact Nat.le_of_ble_eq_true rfl | omega) (by first | exact Nat.le_refl _ | exact Nat.le_of_ble_eq_true rfl | omega) E rfl (by first | exact Nat.le_refl _ | exact Nat.le_of_ble_eq_true rfl | omega) (by first | exact Nat.le_refl _ | exact Nat.le_of_ble_eq_true rfl | omega)
      · exact absurd ⟨q1, q2, q3⟩ q
/-- the element of a number -/
theorem c_elementOf (l : Launch) (G : Gl) {h : Hp} {H t R d : Nat} {es : List Nat} {x : Int32} (hk : hK h H = 9) (h1 : hR h fH_tree H = some t) (hkt : hK h t = 8) (hR1 : hR h fT_row t = some R) (hAL : AL h R d es) (hke : ∀ e, e ∈ es → hK h e = 3) :
    MRw l G yX11_elementOf (.code yX11_elementOf cX11_elementOf 3 (Option.some (Jvm.ClassFile.FieldType.object "CascadeHouse$Element"))) 8 1 6 [.ref H, .int x] h (match fnd h x es with | some e => .inl (some (.ref e), h) | none => .inr (xI, h)) := by
  have M := c_treeFind l G (x := x) hkt hR1 hAL hke
  refine mr_of (by decide +kernel) (Nat.le_of_ble_eq_true rfl) (ct2 (by first | rfl | exact isR_cat (isR_rf _)) (by first | rfl | exact isR_cat (isR_rf _))) (fun X hG hl C E => ?_)
  subst hG hl
  refine r_aload_n (i := 0) C dX11_elementOf_0 rfl rfl (by first | rfl | exact isR_rf _) ?_
  refine r_getR C f_X11_10 dX11_elementOf_1 rfl (by assumption) ?_
  rw [h1]
  refine r_iload_n (i := 1) C dX11_elementOf_4 rfl rfl ?_
  refine r_callVs C v_X11_204 M dX11_elementOf_5 (by assumption) (ci := 8) (by decide) rfl rfl (As := [_]) rfl rfl rfl (by first | exact Nat.le_refl _ | exact Nat.le_of_ble_eq_true rfl | omega) (Nat.le_of_ble_eq_true rfl) (by first | exact Nat.le_refl _ | exact Nat.le_of_ble_eq_true rfl | omega) (by first | exact Nat.le_refl _ | exact Nat.le_of_ble_eq_true rfl | omega) ?_
  cases hf : fnd h x es with
  | none =>
    rw [hf] at E
    refine r_astore_n (i := 2) C dX11_elementOf_8 rfl (Nat.le_of_ble_eq_true rfl) (by first | rfl | exact isR_rf _) ?_
    refine r_aload_n (i := 2) C dX11_elementOf_9 rfl rfl (by first | rfl | exact isR_rf _) ?_
    refine r_ifnonnull (o := none) (tgt := 23) C dX11_elementOf_10 (by decide) (fun _ q => nomatch q) (fun _ => ?_)
    exact r_throw (tx := "there is no such element") C E rfl rfl (by decide +kernel) c_X11_207 w_xI (by decide +kernel) (by decide +kernel) at_I rfl (Nat.le_of_ble_eq_true rfl) dX11_elementOf_13 dX11_elementOf_16 dX11_elementOf_17 dX11_elementOf_19 dX11_elementOf_22 (by first | exact Nat.le_refl _ | exact Nat.le_of_ble_eq_true rfl | omega) (by first | exact Nat.le_refl _ | exact Nat.le_of_ble_eq_true rfl | omega) (by first | exact Nat.le_refl _ | exact Nat.le_of_ble_eq_true rfl | omega) (by first | exact Nat.le_refl _ | exact Nat.le_of_ble_eq_true rfl | omega) (by first | exact Nat.le_refl _ | exact Nat.le_of_ble_eq_true rfl | omega)
  | some e =>
    rw [hf] at E
    refine r_astore_n (i := 2) C dX11_elementOf_8 rfl (Nat.le_of_ble_eq_true rfl) (by first | rfl | exact isR_rf _) ?_
    refine r_aload_n (i := 2) C dX11_elementOf_9 rfl rfl (by first | rfl | exact isR_rf _) ?_
    refine r_ifnonnull (o := some e) (tgt := 23) C dX11_elementOf_10 (by decide) (fun _ _ => ?_) (fun q => nomatch q)
    refine r_aload_n (i := 2) C dX11_elementOf_23 rfl rfl (by first | rfl | exact isR_rf _) ?_
    exact r_aret (o := some e) C E dX11_elementOf_24 rfl rfl (Nat.zero_le _) (Nat.zero_le _)
theorem c_ruleOf (l : Launch) (G : Gl) {h : Hp} {H b R d j r : Nat} {rs : List Nat} (hk : hK h H = 9) (h1 : hR h fH_book H = some b) (hkb : hK h b = 7) (hR1 : hR h fB_rules b = some R) (hAL : AL h R d rs) (hr : rs[j]? = some r) (hkr : hK h r = 6) :
    MRw l G yX11_ruleOf (.code yX11_ruleOf cX11_ruleOf 3 (Option.some (Jvm.ClassFile.FieldType.object "CascadeHouse$Rule"))) 8 1 6 [.ref H, .int (nI j)] h (.inl (some (.ref r), h)) := by
  have M := c_bookFind l G hkb hR1 hAL hr hkr
  refine mr_of (by decide +kernel) (Nat.le_of_ble_eq_true rfl) (ct2 (by first | rfl | exact isR_cat (isR_rf _)) (by first | rfl | exact isR_cat (isR_rf _))) (fun X hG hl C E => ?_)
  subst hG hl
  refine r_aload_n (i := 0) C dX11_ruleOf_0 rfl rfl (by first | rfl | exact isR_rf _) ?_
  refine r_getR C f_X11_19 dX11_ruleOf_1 rfl (by assumption) ?_
  rw [h1]
  refine r_iload_n (i := 1) C dX11_ruleOf_4 rfl rfl ?_
  refine r_callVs C v_X11_212 M dX11_ruleOf_5 (by assumption) (ci := 7) (by decide) rfl rfl (As := [_]) rfl rfl rfl (by first | exact Nat.le_refl _ | exact Nat.le_of_ble_eq_true rfl | omega) (Nat.le_of_ble_eq_true rfl) (by first | exact Nat.le_refl _ | exact Nat.le_of_ble_eq_true rfl | omega) (by first | exact Nat.le_refl _ | exact Nat.le_of_ble_eq_true rfl | omega) ?_
  refine r_astore_n (i := 2) C dX11_ruleOf_8 rfl (Nat.le_of_ble_eq_true rfl) (by first | rfl | exact isR_rf _) ?_
  refine r_aload_n (i := 2) C dX11_ruleOf_9 rfl rfl (by first | rfl | exact isR_rf _) ?_
  refine r_ifnonnull (o := some r) (tgt := 23) C dX11_ruleOf_10 (by decide) (fun _ _ => ?_) (fun q => nomatch q)
  refine r_aload_n (i := 2) C dX11_ruleOf_23 rfl rfl (by first | rfl | exact isR_rf _) ?_
  exact r_aret (o := some r) C E dX11_ruleOf_24 rfl rfl (Nat.zero_le _) (Nat.zero_le _)
theorem c_ruleOfN (l : Launch) (G : Gl) {h : Hp} {H b R d : Nat} {rs : List Nat} {x : Int32} (hk : hK h H = 9) (h1 : hR h fH_book H = some b) (hkb : hK h b = 7) (hR1 : hR h fB_rules b = some R) (hAL : AL h R d rs) (hx : x < 0 ∨ nI rs.length ≤ x) :
    MRw l G yX11_ruleOf (.code yX11_ruleOf cX11_ruleOf 3 (Option.some (Jvm.ClassFile.FieldType.object "CascadeHouse$Rule"))) 8 1 6 [.ref H, .int x] h (.inr (xI, h)) := by
  have M := c_bookFindN l G hkb hR1 hAL hx
  refine mr_of (by decide +kernel) (Nat.le_of_ble_eq_true rfl) (ct2 (by first | rfl | exact isR_cat (isR_rf _)) (by first | rfl | exact isR_cat (isR_rf _))) (fun X hG hl C E => ?_)
  subst hG hl
  refine r_aload_n (i := 0) C dX11_ruleOf_0 rfl rfl (by first | rfl | exact isR_rf _) ?_
  refine r_getR C f_X11_19 dX11_ruleOf_1 rfl (by assumption) ?_
  rw [h1]
  refine r_iload_n (i := 1) C dX11_ruleOf_4 rfl rfl ?_
  refine r_callVs C v_X11_212 M dX11_ruleOf_5 (by assumption) (ci := 7) (by decide) rfl rfl (As := [_]) rfl rfl rfl (by first | exact Nat.le_refl _ | exact Nat.le_of_ble_eq_true rfl | omega) (Nat.le_of_ble_eq_true rfl) (by first | exact Nat.le_refl _ | exact Nat.le_of_ble_eq_true rfl | omega) (by first | exact Nat.le_refl _ | exact Nat.le_of_ble_eq_true rfl | omega) ?_
  refine r_astore_n (i := 2) C dX11_ruleOf_8 rfl (Nat.le_of_ble_eq_true rfl) (by first | rfl | exact isR_rf _) ?_
  refine r_aload_n (i := 2) C dX11_ruleOf_9 rfl rfl (by first | rfl | exact isR_rf _) ?_
  refine r_ifnonnull (o := none) (tgt := 23) C dX11_ruleOf_10 (by decide) (fun _ q => nomatch q) (fun _ => ?_)
  exact r_throw (tx := "there is no such rule") C E rfl rfl (by decide +kernel) c_X11_207 w_xI (by decide +kernel) (by decide +kernel) at_I rfl (Nat.le_of_ble_eq_true rfl) dX11_ruleOf_13 dX11_ruleOf_16 dX11_ruleOf_17 dX11_ruleOf_19 dX11_ruleOf_22 (by first | exact Nat.le_refl _ | exact Nat.le_of_ble_eq_true rfl | omega) (by first | exact Nat.le_refl _ | exact Nat.le_of_ble_eq_true rfl | omega) (by first | exact Nat.le_refl _ | exact Nat.le_of_ble_eq_true rfl | omega) (by first | exact Nat.le_refl _ | exact Nat.le_of_ble_eq_true rfl | omega) (by first | exact Nat.le_refl _ | exact Nat.le_of_ble_eq_true rfl | omega)
/-- how many declarations a rule would have -/
def cwO (h : Hp) (r D p : Nat) : Int32 := if p = 14 then hI h fU_declarationCount r + nwo h D 3 + nwo h D 4 else hI h fU_declarationCount r + nwo h D p
theorem c_putInto (l : Launch) (G : Gl) {h : Hp} {r D p d : Nat} (hD : UD h r D) (hp : p ≤ 14) (hd : hK h d = 2) (q : ¬ 6 < cwO h r D p) : MRw l G yX11_putInto (.code yX11_putInto cX11_putInto 3 none) 8 1 6 [.ref r, .int (nI p), .ref d] h (.inl (none, if p = 14 then ptO (ptO h r D 3 d) r D 4 d else ptO h r D p d)) := by
  have M := c_countWith l G hD hp
  have M2 := c_rulePut l G hD hp hd
  have hkr := hD.1
  rw [show (if p = 14 then hI h fU_declarationCount r + nwo h D 3 + nwo h D 4 else hI h fU_declarationCount r + nwo h D p) = cwO h r D p from rfl] at M
  refine mr_of (by decide +kernel) (Nat.le_of_ble_eq_true rfl) (ct3 (by first | rfl | exact isR_cat (isR_rf _)) (by first | rfl | exact isR_cat (isR_rf _)) (by first | rfl | exact isR_cat (isR_rf _))) (fun X hG hl C E => ?_)
  subst hG hl
  refine r_aload_n (i := 0) C dX11_putInto_0 rfl rfl (by first | rfl | exact isR_rf _) ?_
  refine r_iload_n (i := 1) C dX11_putInto_1 rfl rfl ?_
  refine r_callVs C v_X11_220 M dX11_putInto_2 (by assumption) (ci := 6) (by decide) rfl rfl (As := [_]) rfl rfl rfl (by first | exact Nat.le_refl _ | exact Nat.le_of_ble_eq_true rfl | omega) (Nat.le_of_ble_eq_true rfl) (by first | exact Nat.le_refl _ | exact Nat.le_of_ble_eq_true rfl | omega) (by first | exact Nat.le_refl _ | exact Nat.le_of_ble_eq_true rfl | omega) ?_
  refine r_bipush (v := 6) C dX11_putInto_5 (by decide) ?_
  refine r_ic_le (tgt := 20) C dX11_putInto_7 (by decide) (fun c_7 => ?_) (fun c_7 => ?_)
  · refine r_aload_n (i := 0) C dX11_putInto_20 rfl rfl (by first | rfl | exact isR_rf _) ?_
    refine r_iload_n (i := 1) C dX11_putInto_21 rfl rfl ?_
    refine r_aload_n (i := 2) C dX11_putInto_22 rfl rfl (by first | rfl | exact isR_rf _) ?_
    refine r_callVn C v_X11_225 M2 dX11_putInto_23 (by assumption) (ci := 6) (by decide) rfl rfl (As := [_, _]) rfl rfl rfl (by first | exact Nat.le_refl _ | exact Nat.le_of_ble_eq_true rfl | omega) (Nat.le_of_ble_eq_true rfl) (by first | exact Nat.le_refl _ | exact Nat.le_of_ble_eq_true rfl | omega) (by first | exact Nat.le_refl _ | exact Nat.le_of_ble_eq_true rfl | omega) ?_
    exact r_vret C E dX11_putInto_26 rfl (Nat.zero_le _) (Nat.zero_le _)
  · exact absurd (Int32.not_le.mp c_7) q
theorem c_putIntoN (l : Launch) (G : Gl) {h : Hp} {r D p d : Nat} (hD : UD h r D) (hp : p ≤ 14) (q : 6 < cwO h r D p) : MRw l G yX11_putInto (.code yX11_putInto cX11_putInto 3 none) 8 1 6 [.ref r, .int (nI p), .ref d] h (.inr (xS, h)) := by
  have M := c_countWith l G hD hp
  have hkr := hD.1
  rw [show (if p = 14 then hI h fU_declarationCount r + nwo h D 3 + nwo h D 4 else hI h fU_declarationCount r + nwo h D p) = cwO h r D p from rfl] at M
  refine mr_of (by decide +kernel) (Nat.le_of_ble_eq_true rfl) (ct3 (by first | rfl | exact isR_cat (isR_rf _)) (by first | rfl | exact isR_cat (isR_rf _)) (by first | rfl | exact isR_cat (isR_rf _))) (fun X hG hl C E => ?_)
  subst hG hl
  refine r_aload_n (i := 0) C dX11_putInto_0 rfl rfl (by first | rfl | exact isR_rf _) ?_
  refine r_iload_n (i := 1) C dX11_putInto_1 rfl rfl ?_
  refine r_callVs C v_X11_220 M dX11_putInto_2 (by assumption) (ci := 6) (by decide) rfl rfl (As := [_]) rfl rfl rfl (by first | exact Nat.le_refl _ | exact Nat.le_of_ble_eq_true rfl | omega) (Nat.le_of_ble_eq_true rfl) (by first | exact Nat.le_refl _ | exact Nat.le_of_ble_eq_true rfl | omega) (by first | exact Nat.le_refl _ | exact Nat.le_of_ble_eq_true rfl | omega) ?_
  refine r_bipush (v := 6) C dX11_putInto_5 (by decide) ?_
  refine r_ic_le (tgt := 20) C dX11_putInto_7 (by decide) (fun c_7 => ?_) (fun c_7 => ?_)
  · exact absurd q (Int32.not_lt.mpr c_7)
  · exact r_throw (tx := "a rule has at most 6 declarations") C E rfl rfl (by decide +kernel) c_X11_55 w_xS (by decide +kernel) (by decide +kernel) at_S rfl (Nat.le_of_ble_eq_true rfl) dX11_putInto_10 dX11_putInto_13 dX11_putInto_14 dX11_putInto_16 dX11_putInto_19 (by first | exact Nat.le_refl _ | exact Nat.le_of_ble_eq_true rfl | omega) (by first | exact Nat.le_refl _ | exact Nat.le_of_ble_eq_true rfl | omega) (by first | exact Nat.le_refl _ | exact Nat.le_of_ble_eq_true rfl | omega) (by first | exact Nat.le_refl _ | exact Nat.le_of_ble_eq_true rfl | omega) (by first | exact Nat.le_refl _ | exact Nat.le_of_ble_eq_true rfl | omega)
