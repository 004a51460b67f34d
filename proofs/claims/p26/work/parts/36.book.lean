/-! ===== RuleBook ===== -/
theorem c_bookInit (l : Launch) (G : Gl) {h : Hp} {b : Nat} (hk : hK h b = 7) (hb : b < hN h) : MRw l G yX8_init (.code yX8_init cX8_init 1 none) 4 2 6 [.ref b] h
    (.inl (none, sR (nls (nw (sR (nls (nw h 0 0) (hN h)) fB_rules b (some (hN h))) 0 0) (hN h + 1)) fB_byStrength b (some (hN h + 1)))) := by
  refine mr_of (by decide +kernel) (Nat.le_of_ble_eq_true rfl) (ct1 (by first | rfl | exact isR_cat (isR_rf _))) (fun X hG hl C E => ?_)
  subst hG hl
  have hN9 : meth_nm X = "<init>" := cx_nm C
  refine r_aload_n (i := 0) C dX8_init_0 rfl rfl (by first | rfl | exact isR_rf _) ?_
  refine r_oinit C dX8_init_1 (by first | exact Nat.le_refl _ | exact Nat.le_of_ble_eq_true rfl | omega) rfl (by decide) l_X8_3 w_oiM w_oiC ?_
  refine r_aload_n (i := 0) C dX8_init_4 rfl rfl (by first | rfl | exact isR_rf _) ?_
  refine r_new C n_X8_9 dX8_init_5 (by first | exact Nat.le_refl _ | exact Nat.le_of_ble_eq_true rfl | omega) (by first | exact Nat.le_refl _ | exact Nat.le_of_ble_eq_true rfl | omega) ?_
  refine r_dup C (by first | rfl | exact isR_cat (isR_rf _)) dX8_init_8 ?_
  refine r_callI C i_X8_11 (c_listInit _ _ (h := nw h 0 0) (a := hN h) (va_up_self _ _ _)) dX8_init_9 (As := []) rfl rfl rfl (by first | exact Nat.le_refl _ | exact Nat.le_of_ble_eq_true rfl | omega) (Nat.le_of_ble_eq_true rfl) (by first | exact Nat.le_refl _ | exact Nat.le_of_ble_eq_true rfl | omega) (by first | exact Nat.le_refl _ | exact Nat.le_of_ble_eq_true rfl | omega) ?_
  have hk1 : hK (nls (nw h 0 0) (hN h)) b = 7 := by show va_up (hK h) (hN h) 0 b = 7; rw [va_up_ne _ _ (by omega)]; exact hk
  change wr X 1 3 12 _ _ (nls (nw h 0 0) (hN h))
  first | refine r_putFR (o := some _) C f_X8_12 dX8_init_12 rfl hN9 rfl (by assumption) ?_ | refine r_putFR (o := none) C f_X8_12 dX8_init_12 rfl hN9 rfl (by assumption) ?_ | refine r_putFR C f_X8_12 dX8_init_12 rfl hN9 rfl (by assumption) ?_
  refine r_aload_n (i := 0) C dX8_init_15 rfl rfl (by first | rfl | exact isR_rf _) ?_
  refine r_new C n_X8_9 dX8_init_16 (by first | exact Nat.le_refl _ | exact Nat.le_of_ble_eq_true rfl | omega) (by first | exact Nat.le_refl _ | exact Nat.le_of_ble_eq_true rfl | omega) ?_
  refine r_dup C (by first | rfl | exact isR_cat (isR_rf _)) dX8_init_19 ?_
  refine r_callI C i_X8_11 (c_listInit _ _ (h := nw (sR (nls (nw h 0 0) (hN h)) fB_rules b (some (hN h))) 0 0) (a := hN h + 1) (va_up_self _ _ _)) dX8_init_20 (As := []) rfl rfl rfl (by first | exact Nat.le_refl _ | exact Nat.le_of_ble_eq_true rfl | omega) (Nat.le_of_ble_eq_true rfl) (by first | exact Nat.le_refl _ | exact Nat.le_of_ble_eq_true rfl | omega) (by first | exact Nat.le_refl _ | exact Nat.le_of_ble_eq_true rfl | omega) ?_
  have hk2 : hK (nls (nw (sR (nls (nw h 0 0) (hN h)) fB_rules b (some (hN h))) 0 0) (hN h + 1)) b = 7 := by
    show va_up (va_up (hK h) (hN h) 0) (hN h + 1) 0 b = 7
    rw [va_up_ne _ _ (by omega), va_up_ne _ _ (by omega)]; exact hk
  change wr X 2 6 23 _ _ (nls (nw (sR (nls (nw h 0 0) (hN h)) fB_rules b (some (hN h))) 0 0) (hN h + 1))
  first | refine r_putFR (o := some _) C f_X8_18 dX8_init_23 rfl hN9 rfl (by assumption) ?_ | refine r_putFR (o := none) C f_X8_18 dX8_init_23 rfl hN9 rfl (by assumption) ?_ | refine r_putFR C f_X8_18 dX8_init_23 rfl hN9 rfl (by assumption) ?_
  exact r_vret C E dX8_init_26 rfl (by first | exact Nat.le_refl _ | exact Nat.le_of_ble_eq_true rfl | omega) (by first | exact Nat.le_refl _ | exact Nat.le_of_ble_eq_true rfl | omega)
theorem c_bookSize (l : Launch) (G : Gl) {h : Hp} {b R : Nat} (hk : hK h b = 7) (hR1 : hR h fB_rules b = some R) (hkR : hK h R = 0) : MRw l G yX8_size (.code yX8_size cX8_size 1 (Option.some Jvm.ClassFile.FieldType.int)) 1 0 0 [.ref b] h (.inl (some (.int (hI h fA_size R)), h)) := by
  refine mr_of (by decide +kernel) (Nat.le_of_ble_eq_true rfl) (ct1 (by first | rfl | exact isR_cat (isR_rf _))) (fun X hG hl C E => ?_)
  subst hG hl
  refine r_aload_n (i := 0) C dX8_size_0 rfl rfl (by first | rfl | exact isR_rf _) ?_
  refine r_getR C f_X8_12 dX8_size_1 rfl (by assumption) ?_
  rw [hR1]
  refine r_callVs C v_X8_21 (c_size _ _ hkR) dX8_size_4 (by assumption) (ci := 0) (by decide) rfl rfl (As := []) rfl rfl rfl (by first | exact Nat.le_refl _ | exact Nat.le_of_ble_eq_true rfl | omega) (Nat.le_of_ble_eq_true rfl) (by first | exact Nat.le_refl _ | exact Nat.le_of_ble_eq_true rfl | omega) (by first | exact Nat.le_refl _ | exact Nat.le_of_ble_eq_true rfl | omega) ?_
  exact r_iret C E dX8_size_7 rfl rfl (by first | exact Nat.le_refl _ | exact Nat.le_of_ble_eq_true rfl | omega) (by first | exact Nat.le_refl _ | exact Nat.le_of_ble_eq_true rfl | omega)
theorem c_bookFindN (l : Launch) (G : Gl) {h : Hp} {b R d : Nat} {rs : List Nat} {x : Int32} (hk : hK h b = 7) (hR1 : hR h fB_rules b = some R) (hAL : AL h R d rs) (hx : x < 0 ∨ nI rs.length ≤ x) : MRw l G yX8_find (.code yX8_find cX8_find 2 (Option.some (Jvm.ClassFile.FieldType.object "CascadeHouse$Rule"))) 3 0 0 [.ref b, .int x] h (.inl (some .null, h)) := by
  have hkR := hAL.1
  have hsz := hAL.2.1
  refine mr_of (by decide +kernel) (Nat.le_of_ble_eq_true rfl) (ct2 (by first | rfl | exact isR_cat (isR_rf _)) (by first | rfl | exact isR_cat (isR_rf _))) (fun X hG hl C E => ?_)
  subst hG hl
  refine r_iload_n (i := 1) C dX8_find_0 rfl rfl ?_
  refine r_if_lt (tgt := 29) C dX8_find_1 (by decide) (fun c_1 => ?_) (fun c_1 => ?_)
  · refine r_null C dX8_find_29 ?_
    exact r_aret (o := none) C E dX8_find_30 rfl rfl (Nat.le_refl _) (Nat.le_refl _)
  · refine r_iload_n (i := 1) C dX8_find_4 rfl rfl ?_
    refine r_aload_n (i := 0) C dX8_find_5 rfl rfl (by first | rfl | exact isR_rf _) ?_
    refine r_getR C f_X8_12 dX8_find_6 rfl (by assumption) ?_
    rw [hR1]
    refine r_callVs C v_X8_21 (c_size _ _ hkR) dX8_find_9 (by assumption) (ci := 0) (by decide) rfl rfl (As := []) rfl rfl rfl (by first | exact Nat.le_refl _ | exact Nat.le_of_ble_eq_true rfl | omega) (Nat.le_of_ble_eq_true rfl) (by first | exact Nat.le_refl _ | exact Nat.le_of_ble_eq_true rfl | omega) (by first | exact Nat.le_refl _ | exact Nat.le_of_ble_eq_true rfl | omega) ?_
    rw [hsz]
    refine r_ic_ge (tgt := 29) C dX8_find_12 (by decide) (fun c_12 => ?_) (fun c_12 => ?_)
    · refine r_null C dX8_find_29 ?_
      exact r_aret (o := none) C E dX8_find_30 rfl rfl (Nat.le_refl _) (Nat.le_refl _)
    · exact absurd (hx.resolve_left c_1) c_12
theorem c_bookFind (l : Launch) (G : Gl) {h : Hp} {b R d j r : Nat} {rs : List Nat} (hk : hK h b = 7) (hR1 : hR h fB_rules b = some R) (hAL : AL h R d rs) (hr : rs[j]? = some r) (hkr : hK h r = 6) : MRw l G yX8_find (.code yX8_find cX8_find 2 (Option.some (Jvm.ClassFile.FieldType.object "CascadeHouse$Rule"))) 3 0 0 [.ref b, .int (nI j)] h (.inl (some (.ref r), h)) := by
  have hkR := hAL.1
  have hsz := hAL.2.1
  have hj : j < rs.length := (List.getElem?_eq_some_iff.mp hr).1
  have hl := AL_len hAL
  refine mr_of (by decide +kernel) (Nat.le_of_ble_eq_true rfl) (ct2 (by first | rfl | exact isR_cat (isR_rf _)) (by first | rfl | exact isR_cat (isR_rf _))) (fun X hG hl C E => ?_)
  subst hG hl
  refine r_iload_n (i := 1) C dX8_find_0 rfl rfl ?_
  refine r_if_lt (tgt := 29) C dX8_find_1 (by decide) (fun c_1 => ?_) (fun c_1 => ?_)
  · exact absurd c_1 (nI_pos (by omega))
  · refine r_iload_n (i := 1) C dX8_find_4 rfl rfl ?_
    refine r_aload_n (i := 0) C dX8_find_5 rfl rfl (by first | rfl | exact isR_rf _) ?_
    refine r_getR C f_X8_12 dX8_find_6 rfl (by assumption) ?_
    rw [hR1]
    refine r_callVs C v_X8_21 (c_size _ _ hkR) dX8_find_9 (by assumption) (ci := 0) (by decide) rfl rfl (As := []) rfl rfl rfl (by first | exact Nat.le_refl _ | exact Nat.le_of_ble_eq_true rfl | omega) (Nat.le_of_ble_eq_true rfl) (by first | exact Nat.le_refl _ | exact Nat.le_of_ble_eq_true rfl | omega) (by first | exact Nat.le_refl _ | exact Nat.le_of_ble_eq_true rfl | omega) ?_
    rw [hsz]
    refine rn_ic_ge C j rs.length rfl rfl (by omega) hl (tgt := 29) dX8_find_12 (by decide) (fun q => absurd q (by omega)) (fun _ => ?_)
    refine r_aload_n (i := 0) C dX8_find_15 rfl rfl (by first | rfl | exact isR_rf _) ?_
    refine r_getR C f_X8_12 dX8_find_16 rfl (by assumption) ?_
    rw [hR1]
    refine r_iload_n (i := 1) C dX8_find_19 rfl rfl ?_
    refine r_callVs C v_X8_25 (c_get _ _ hAL hr) dX8_find_20 (by assumption) (ci := 0) (by decide) rfl rfl (As := [_]) rfl rfl rfl (by first | exact Nat.le_refl _ | exact Nat.le_of_ble_eq_true rfl | omega) (Nat.le_of_ble_eq_true rfl) (by first | exact Nat.le_refl _ | exact Nat.le_of_ble_eq_true rfl | omega) (by first | exact Nat.le_refl _ | exact Nat.le_of_ble_eq_true rfl | omega) ?_
    refine r_cast (o := some _) (ci := 6) C dX8_find_23 c_X8_29 rfl (by decide) (by decide +kernel) (fun a q => by cases q; exact hkr) ?_
    refine r_goto (tgt := 30) C dX8_find_26 (by decide) ?_
    exact r_aret (o := some r) C E dX8_find_30 rfl rfl (Nat.le_refl _) (Nat.le_refl _)
theorem flt_app {α : Type} (A B : List α) (x : α) : (A ++ x :: B).eraseIdx A.length = A ++ B := by
  rw [List.eraseIdx_append_of_length_le (Nat.le_refl _), Nat.sub_self]; rfl
theorem isSome6 {h : Hp} (hg : Good h) {a b : Nat} (ha : hK h a = 6) (hb : hK h b = 6) : acq (some a) (some b) := fun x y hx hy => by
  cases hx; cases hy
  exact Or.inr (Or.inl ⟨(kind_in hg ha (by decide)).1, by have := (kind_in hg hb (by decide)).1; omega⟩)
theorem sTr_eq {h h' : Hp} (i1 : hI h' fU_group = hI h fU_group) (i2 : hI h' fU_weightInAll = hI h fU_weightInAll) (i3 : hI h' fU_number = hI h fU_number) (r q : Nat) : sTr h' r q = sTr h r q := by
  unfold sTr; rw [i1, i2, i3]
theorem fstN (P : Nat → Prop) (n : Nat) : ∃ i, i ≤ n ∧ (∀ j, j < i → P j) ∧ (i < n → ¬ P i) := by
  induction n with
  | zero => exact ⟨0, Nat.le_refl _, fun j hj => absurd hj (Nat.not_lt_zero j), fun z => absurd z (Nat.lt_irrefl 0)⟩
  | succ n ih =>
    obtain ⟨i, h1, h2, h3⟩ := ih
    by_cases c : i < n
    · exact ⟨i, by omega, h2, fun _ => h3 c⟩
    · have e : i = n := by omega
      subst e
      by_cases p : P i
      · exact ⟨i + 1, Nat.le_refl _, fun j hj => by
          rcases Nat.lt_or_ge j i with q | q
          · exact h2 j q
          · rw [show j = i by omega]; exact p, fun z => absurd z (Nat.lt_irrefl _)⟩
      · exact ⟨i, by omega, h2, fun _ => p⟩
/-- the first loop of rank takes r away -/
theorem rank1 (l : Launch) (G : Gl) {h : Hp} {b S d r : Nat} {ss : List Nat} (hg : Good h) (hk : hK h b = 7) (hS : hR h fB_byStrength b = some S) (hx : ss.length ≤ 39) (hek : ∀ x ∈ ss, hK h x = 6) (hkr : hK h r = 6) :
    ∀ (m : Nat) (h1 : Hp) (zs : List Nat), m ≤ ss.length → Good h1 → LF h h1 S d d → AL h1 S d zs → zs = ss.take m ++ (ss.drop m).filter (fun q => !(q == r)) →
      ∃ h2 : Hp, Good h2 ∧ LF h h2 S d d ∧ AL h2 S d (ss.filter fun q => !(q == r)) ∧ ∀ (X : Ctx), lOf X = l → gOf X = G → ∀ (mc ms : Nat), Cx X yX8_rank cX8_rank 3 none [] 7 mc ms → (∀ v2, wr X 0 0 41 [.ref b, .ref r, v2] [] h2) → wr X 0 0 10 [.ref b, .ref r, .int (nI m - 1)] [] h1 := by
  intro m
  induction m with
  | zero =>
    intro h1 zs _ hg1 F1 A1 hz
    have hz' : zs = ss.filter (fun q => !(q == r)) := by rw [hz]; rfl
    rw [hz'] at A1
    refine ⟨h1, hg1, F1, A1, fun X e1 e2 mc ms C K => ?_⟩
    refine r_iload_n (i := 2) C dX8_rank_10 rfl rfl ?_
    refine r_if_lt (tgt := 41) C dX8_rank_11 (by decide) (fun _ => K _) (fun c => absurd (by decide : (nI 0 - 1 : Int32) < 0) c)
  | succ m ih =>
    intro h1 zs hm hg1 F1 A1 hz
    have hlt : m < ss.length := hm
    have hkS := A1.1
    obtain ⟨x, hxm⟩ : ∃ x, x = ss[m] := ⟨_, rfl⟩
    have htk : ss.take (m + 1) = ss.take m ++ [x] := by rw [List.take_succ, List.getElem?_eq_getElem hlt, ← hxm]; rfl
    have hdr : ss.drop m = x :: ss.drop (m + 1) := by rw [List.drop_eq_getElem_cons hlt, ← hxm]
    have hzs : zs = ss.take m ++ x :: (ss.drop (m + 1)).filter (fun q => !(q == r)) := by rw [hz, htk, List.append_assoc]; rfl
    have hlm : (ss.take m).length = m := by rw [List.length_take]; omega
    have hzx : zs[m]? = some x := by rw [hzs, List.getElem?_append_right (by omega), hlm, Nat.sub_self]; rfl
    have hxs : x ∈ ss := by rw [hxm]; exact List.getElem_mem _
    have hkx : hK h1 x = 6 := KP_k hg F1.1 (hek x hxs) (by decide)
    have hkr1 : hK h1 r = 6 := KP_k hg F1.1 hkr (by decide)
    have hkb1 : hK h1 b = 7 := KP_k hg F1.1 hk (by decide)
    have hS1 : hR h1 fB_byStrength b = some S := by rw [F1.2.2.2.2.1 _ (by decide)]; exact hS
    by_cases hxr : x = r
    · have hzm : ∀ q ∈ zs, hK h1 q = 6 := fun q hq => by
        rw [hzs] at hq
        rcases List.mem_append.mp hq with hq | hq
        · exact KP_k hg F1.1 (hek q (List.mem_of_mem_take hq)) (by decide)
        · rcases List.mem_cons.mp hq with hq | hq
          · rw [hq]; exact hkx
          · exact KP_k hg F1.1 (hek q (List.mem_of_mem_drop (List.mem_filter.mp hq).1)) (by decide)
      obtain ⟨h2, M, A2, F2, hg2⟩ := c_remove l G hg1 A1 hzx LK6 hzm
      have F3 := LF_t F1 (LF_of F2)
      have hze : zs.eraseIdx m = ss.take m ++ (ss.drop m).filter (fun q => !(q == r)) := by
        have := flt_app (ss.take m) ((ss.drop (m + 1)).filter (fun q => !(q == r))) x
        rw [hlm] at this
        rw [hzs, this, hdr, List.filter_cons_of_neg (by simp [hxr])]
      obtain ⟨h3, g3, f3, a3, W⟩ := ih h2 _ (by omega) hg2 F3 A2 hze
      refine ⟨h3, g3, f3, a3, fun X e1 e2 mc ms C K => ?_⟩
      have W' := W X e1 e2 mc ms C K
      subst e1 e2
      refine r_iload_n (i := 2) C dX8_rank_10 rfl rfl ?_
      rw [show (nI (m + 1) - 1 : Int32) = nI m from nI_pred m]
      refine r_if_lt (tgt := 41) C dX8_rank_11 (by decide) (fun c_11 => ?_) (fun c_11 => ?_)
      · exact absurd c_11 (nI_pos (by omega))
      · refine r_aload_n (i := 0) C dX8_rank_14 rfl rfl (by first | rfl | exact isR_rf _) ?_
        refine r_getR C f_X8_18 dX8_rank_15 rfl (by assumption) ?_
        rw [hS1]
        refine r_iload_n (i := 2) C dX8_rank_18 rfl rfl ?_
        refine r_callVs C v_X8_25 (c_get _ _ A1 hzx) dX8_rank_19 (by assumption) (ci := 0) (by decide) rfl rfl (As := [_]) rfl rfl rfl (by first | exact Nat.le_refl _ | exact Nat.le_of_ble_eq_true rfl | omega) (Nat.le_of_ble_eq_true rfl) (by first | exact Nat.le_refl _ | exact Nat.le_of_ble_eq_true rfl | omega) (by first | exact Nat.le_refl _ | exact Nat.le_of_ble_eq_true rfl | omega) ?_
        refine r_aload_n (i := 1) C dX8_rank_22 rfl rfl (by first | rfl | exact isR_rf _) ?_
        refine r_ac_ne (o1 := some x) (o2 := some r) (tgt := 35) C dX8_rank_23 (by decide) (isSome6 hg1 hkx hkr1) (fun c => absurd (congrArg some hxr) c) (fun _ => ?_)
        refine r_aload_n (i := 0) C dX8_rank_26 rfl rfl (by first | rfl | exact isR_rf _) ?_
        refine r_getR C f_X8_18 dX8_rank_27 rfl (by assumption) ?_
        rw [hS1]
        refine r_iload_n (i := 2) C dX8_rank_30 rfl rfl ?_
        refine r_callVs C v_X8_39 M dX8_rank_31 (by assumption) (ci := 0) (by decide) rfl rfl (As := [_]) rfl rfl rfl (by first | exact Nat.le_refl _ | exact Nat.le_of_ble_eq_true rfl | omega) (Nat.le_of_ble_eq_true rfl) (by first | exact Nat.le_refl _ | exact Nat.le_of_ble_eq_true rfl | omega) (by first | exact Nat.le_refl _ | exact Nat.le_of_ble_eq_true rfl | omega) ?_
        refine r_pop C (by first | rfl | exact isR_cat (isR_rf _)) dX8_rank_34 ?_
        refine r_iinc (i := 2) C dX8_rank_35 rfl rfl ?_
        refine r_goto (tgt := 10) C dX8_rank_38 (by decide) ?_
        rw [Int32.sub_eq_add_neg] at W'
        exact W'
    · obtain ⟨h3, g3, f3, a3, W⟩ := ih h1 zs (by omega) hg1 F1 A1 (by rw [hzs, hdr, List.filter_cons_of_pos (by simp [hxr])])
      refine ⟨h3, g3, f3, a3, fun X e1 e2 mc ms C K => ?_⟩
      have W' := W X e1 e2 mc ms C K
      subst e1 e2
      refine r_iload_n (i := 2) C dX8_rank_10 rfl rfl ?_
      rw [show (nI (m + 1) - 1 : Int32) = nI m from nI_pred m]
      refine r_if_lt (tgt := 41) C dX8_rank_11 (by decide) (fun c_11 => ?_) (fun c_11 => ?_)
      · exact absurd c_11 (nI_pos (by omega))
      · refine r_aload_n (i := 0) C dX8_rank_14 rfl rfl (by first | rfl | exact isR_rf _) ?_
        refine r_getR C f_X8_18 dX8_rank_15 rfl (by assumption) ?_
        rw [hS1]
        refine r_iload_n (i := 2) C dX8_rank_18 rfl rfl ?_
        refine r_callVs C v_X8_25 (c_get _ _ A1 hzx) dX8_rank_19 (by assumption) (ci := 0) (by decide) rfl rfl (As := [_]) rfl rfl rfl (by first | exact Nat.le_refl _ | exact Nat.le_of_ble_eq_true rfl | omega) (Nat.le_of_ble_eq_true rfl) (by first | exact Nat.le_refl _ | exact Nat.le_of_ble_eq_true rfl | omega) (by first | exact Nat.le_refl _ | exact Nat.le_of_ble_eq_true rfl | omega) ?_
        refine r_aload_n (i := 1) C dX8_rank_22 rfl rfl (by first | rfl | exact isR_rf _) ?_
        refine r_ac_ne (o1 := some x) (o2 := some r) (tgt := 35) C dX8_rank_23 (by decide) (isSome6 hg1 hkx hkr1) (fun _ => ?_) (fun c => absurd (Option.some.inj c) hxr)
        refine r_iinc (i := 2) C dX8_rank_35 rfl rfl ?_
        refine r_goto (tgt := 10) C dX8_rank_38 (by decide) ?_
        rw [Int32.sub_eq_add_neg] at W'
        exact W'
/-- ranks: r stands behind those that are stronger, ahead of one that is not -/
theorem c_rank (l : Launch) (G : Gl) {h : Hp} {b S d r : Nat} {ss ys : List Nat} (hg : Good h) (hk : hK h b = 7) (hS : hR h fB_byStrength b = some S) (hAL : AL h S d ss) (hx : ss.length ≤ 39) (hek : ∀ x ∈ ss, hK h x = 6) (hkr : hK h r = 6) (hys : ss.filter (fun q => !(q == r)) = ys) :
    ∃ (h' : Hp) (d' i : Nat), MRw l G yX8_rank (.code yX8_rank cX8_rank 3 none) 7 1 60 [.ref b, .ref r] h (.inl (none, h')) ∧ AL h' S d' (ys.take i ++ r :: ys.drop i) ∧ LF h h' S d d' ∧ Good h' ∧
      i ≤ ys.length ∧ (∀ (j q : Nat), j < i → ys[j]? = some q → sTr h q r) ∧ (∀ (q : Nat), ys[i]? = some q → ¬ sTr h q r) := by
  have hsz := hAL.2.1
  have hkS := hAL.1
  obtain ⟨h2, hg2, F2, A2, W⟩ := rank1 l G hg hk hS hx hek hkr ss.length h ss (Nat.le_refl _) hg (LF_r h S d) hAL (by simp)
  rw [hys] at A2
  have hyl : ys.length ≤ ss.length := by rw [← hys]; exact List.length_filter_le _ _
  have hym : ∀ x ∈ ys, hK h2 x = 6 := fun x hxy => by
    rw [← hys] at hxy
    exact KP_k hg F2.1 (hek x (List.mem_filter.mp hxy).1) (by decide)
  have hkr2 := KP_k hg F2.1 hkr (by decide)
  have hk2 := KP_k hg F2.1 hk (by decide)
  have hS2 : hR h2 fB_byStrength b = some S := by rw [F2.2.2.2.2.1 _ (by decide)]; exact hS
  have hst : ∀ q, sTr h2 q r = sTr h q r := fun q => sTr_eq (F2.2.2.1 _ (by decide) (by decide)) (F2.2.2.1 _ (by decide) (by decide)) (F2.2.2.1 _ (by decide) (by decide)) q r
  obtain ⟨i, hi1, hi2, hi3⟩ := fstN (fun j => ∀ q, ys[j]? = some q → sTr h q r) ys.length
  obtain ⟨h3, d3, M, A3, F3, hg3⟩ := c_addAt l G hg2 A2 hi1 (by omega) LK6 hym hkr2
  refine ⟨h3, d3, i, ?_, A3, LF_t F2 (LF_of F3), hg3, hi1, fun j q hj hq => hi2 j hj q hq, fun q hq z => hi3 (List.getElem?_eq_some_iff.mp hq).1 (fun q2 hq2 => by rw [hq] at hq2; cases hq2; exact z)⟩
  refine mr_of (by decide +kernel) (Nat.le_of_ble_eq_true rfl) (ct2 (by first | rfl | exact isR_cat (isR_rf _)) (by first | rfl | exact isR_cat (isR_rf _))) (fun X hG hl C E => ?_)
  subst hG hl
  refine r_aload_n (i := 0) C dX8_rank_0 rfl rfl (by first | rfl | exact isR_rf _) ?_
  refine r_getR C f_X8_18 dX8_rank_1 rfl (by assumption) ?_
  rw [hS]
  refine r_callVs C v_X8_21 (c_size _ _ hkS) dX8_rank_4 (by assumption) (ci := 0) (by decide) rfl rfl (As := []) rfl rfl rfl (by first | exact Nat.le_refl _ | exact Nat.le_of_ble_eq_true rfl | omega) (Nat.le_of_ble_eq_true rfl) (by first | exact Nat.le_refl _ | exact Nat.le_of_ble_eq_true rfl | omega) (by first | exact Nat.le_refl _ | exact Nat.le_of_ble_eq_true rfl | omega) ?_
  rw [hsz]
  refine r_iconst (v := 1) C dX8_rank_7 (by decide) ?_
  refine r_isub C dX8_rank_8 ?_
  refine r_istore_n (i := 2) C dX8_rank_9 rfl (Nat.le_of_ble_eq_true rfl) ?_
  refine W X rfl rfl _ _ C (fun v2 => ?_)
  have hkS2 := A2.1
  have hsz2 := A2.2.1
  have hend : wr X 0 0 78 [.ref b, .ref r, .int (nI i)] [] h2 := by
    refine r_aload_n (i := 0) C dX8_rank_78 rfl rfl (by first | rfl | exact isR_rf _) ?_
    refine r_getR C f_X8_18 dX8_rank_79 rfl (by assumption) ?_
    rw [hS2]
    refine r_iload_n (i := 2) C dX8_rank_82 rfl rfl ?_
    refine r_aload_n (i := 1) C dX8_rank_83 rfl rfl (by first | rfl | exact isR_rf _) ?_
    refine r_callVn C v_X8_46 M dX8_rank_84 (by assumption) (ci := 0) (by decide) rfl rfl (As := [_, _]) rfl rfl rfl (by first | exact Nat.le_refl _ | exact Nat.le_of_ble_eq_true rfl | omega) (Nat.le_of_ble_eq_true rfl) (by first | exact Nat.le_refl _ | exact Nat.le_of_ble_eq_true rfl | omega) (by first | exact Nat.le_refl _ | exact Nat.le_of_ble_eq_true rfl | omega) ?_
    exact r_vret C E dX8_rank_87 rfl (by first | exact Nat.le_refl _ | exact Nat.le_of_ble_eq_true rfl | omega) (by first | exact Nat.le_refl _ | exact Nat.le_of_ble_eq_true rfl | omega)
  have hloop : ∀ (m j : Nat), j + m = i → wr X 0 0 43 [.ref b, .ref r, .int (nI j)] [] h2 := by
    intro m
    induction m with
    | zero =>
      intro j hj
      have : j = i := by omega
      subst this
      refine r_iload_n (i := 2) C dX8_rank_43 rfl rfl ?_
      refine r_aload_n (i := 0) C dX8_rank_44 rfl rfl (by first | rfl | exact isR_rf _) ?_
      refine r_getR C f_X8_18 dX8_rank_45 rfl (by assumption) ?_
      rw [hS2]
      refine r_callVs C v_X8_21 (c_size _ _ hkS2) dX8_rank_48 (by assumption) (ci := 0) (by decide) rfl rfl (As := []) rfl rfl rfl (by first | exact Nat.le_refl _ | exact Nat.le_of_ble_eq_true rfl | omega) (Nat.le_of_ble_eq_true rfl) (by first | exact Nat.le_refl _ | exact Nat.le_of_ble_eq_true rfl | omega) (by first | exact Nat.le_refl _ | exact Nat.le_of_ble_eq_true rfl | omega) ?_
      rw [hsz2]
      refine rn_ic_ge C j ys.length rfl rfl (by omega) (by omega) (tgt := 78) dX8_rank_51 (by decide) (fun _ => hend) (fun c => ?_)
      obtain ⟨q, hq⟩ : ∃ q, ys[j]? = some q := ⟨_, List.getElem?_eq_getElem c⟩
      have hkq := hym q (List.mem_of_getElem? hq)
      obtain ⟨v, Mv, hv1, hv2⟩ := c_isStronger (lOf X) (gOf X) hkq hkr2
      refine r_aload_n (i := 0) C dX8_rank_54 rfl rfl (by first | rfl | exact isR_rf _) ?_
      refine r_getR C f_X8_18 dX8_rank_55 rfl (by assumption) ?_
      rw [hS2]
      refine r_iload_n (i := 2) C dX8_rank_58 rfl rfl ?_
      refine r_callVs C v_X8_25 (c_get _ _ A2 hq) dX8_rank_59 (by assumption) (ci := 0) (by decide) rfl rfl (As := [_]) rfl rfl rfl (by first | exact Nat.le_refl _ | exact Nat.le_of_ble_eq_true rfl | omega) (Nat.le_of_ble_eq_true rfl) (by first | exact Nat.le_refl _ | exact Nat.le_of_ble_eq_true rfl | omega) (by first | exact Nat.le_refl _ | exact Nat.le_of_ble_eq_true rfl | omega) ?_
      refine r_cast (o := some _) (ci := 6) C dX8_rank_62 c_X8_29 rfl (by decide) (by decide +kernel) (fun a q => by cases q; exact hkq) ?_
      refine r_aload_n (i := 1) C dX8_rank_65 rfl rfl (by first | rfl | exact isR_rf _) ?_
      refine r_callVs C v_X8_42 Mv dX8_rank_66 (by assumption) (ci := 6) (by decide) rfl rfl (As := [_]) rfl rfl rfl (by first | exact Nat.le_refl _ | exact Nat.le_of_ble_eq_true rfl | omega) (Nat.le_of_ble_eq_true rfl) (by first | exact Nat.le_refl _ | exact Nat.le_of_ble_eq_true rfl | omega) (by first | exact Nat.le_refl _ | exact Nat.le_of_ble_eq_true rfl | omega) ?_
      refine r_if_eq (tgt := 78) C dX8_rank_69 (by decide) (fun c_69 => ?_) (fun c_69 => ?_)
      · exact hend
      · exact absurd (fun q2 hq2 => by rw [hq] at hq2; cases hq2; rw [← hst]; exact v01_y hv1 hv2 c_69) (hi3 c)
    | succ m ih =>
      intro j hj
      refine r_iload_n (i := 2) C dX8_rank_43 rfl rfl ?_
      refine r_aload_n (i := 0) C dX8_rank_44 rfl rfl (by first | rfl | exact isR_rf _) ?_
      refine r_getR C f_X8_18 dX8_rank_45 rfl (by assumption) ?_
      rw [hS2]
      refine r_callVs C v_X8_21 (c_size _ _ hkS2) dX8_rank_48 (by assumption) (ci := 0) (by decide) rfl rfl (As := []) rfl rfl rfl (by first | exact Nat.le_refl _ | exact Nat.le_of_ble_eq_true rfl | omega) (Nat.le_of_ble_eq_true rfl) (by first | exact Nat.le_refl _ | exact Nat.le_of_ble_eq_true rfl | omega) (by first | exact Nat.le_refl _ | exact Nat.le_of_ble_eq_true rfl | omega) ?_
      rw [hsz2]
      refine rn_ic_ge C j ys.length rfl rfl (by omega) (by omega) (tgt := 78) dX8_rank_51 (by decide) (fun c => absurd c (by omega)) (fun c => ?_)
      obtain ⟨q, hq⟩ : ∃ q, ys[j]? = some q := ⟨_, List.getElem?_eq_getElem c⟩
      have hkq := hym q (List.mem_of_getElem? hq)
      obtain ⟨v, Mv, hv1, hv2⟩ := c_isStronger (lOf X) (gOf X) hkq hkr2
      refine r_aload_n (i := 0) C dX8_rank_54 rfl rfl (by first | rfl | exact isR_rf _) ?_
      refine r_getR C f_X8_18 dX8_rank_55 rfl (by assumption) ?_
      rw [hS2]
      refine r_iload_n (i := 2) C dX8_rank_58 rfl rfl ?_
      refine r_callVs C v_X8_25 (c_get _ _ A2 hq) dX8_rank_59 (by assumption) (ci := 0) (by decide) rfl rfl (As := [_]) rfl rfl rfl (by first | exact Nat.le_refl _ | exact Nat.le_of_ble_eq_true rfl | omega) (Nat.le_of_ble_eq_true rfl) (by first | exact Nat.le_refl _ | exact Nat.le_of_ble_eq_true rfl | omega) (by first | exact Nat.le_refl _ | exact Nat.le_of_ble_eq_true rfl | omega) ?_
      refine r_cast (o := some _) (ci := 6) C dX8_rank_62 c_X8_29 rfl (by decide) (by decide +kernel) (fun a q => by cases q; exact hkq) ?_
      refine r_aload_n (i := 1) C dX8_rank_65 rfl rfl (by first | rfl | exact isR_rf _) ?_
      refine r_callVs C v_X8_42 Mv dX8_rank_66 (by assumption) (ci := 6) (by decide) rfl rfl (As := [_]) rfl rfl rfl (by first | exact Nat.le_refl _ | exact Nat.le_of_ble_eq_true rfl | omega) (Nat.le_of_ble_eq_true rfl) (by first | exact Nat.le_refl _ | exact Nat.le_of_ble_eq_true rfl | omega) (by first | exact Nat.le_refl _ | exact Nat.le_of_ble_eq_true rfl | omega) ?_
      refine r_if_eq (tgt := 78) C dX8_rank_69 (by decide) (fun c_69 => ?_) (fun c_69 => ?_)
      · exact absurd (by rw [hst]; exact hi2 j (by omega) q hq) (v01_n hv1 c_69)
      · refine r_iinc1 (i := 2) C dX8_rank_72 rfl ?_
        rw [nI_1]
        refine r_goto (tgt := 43) C dX8_rank_75 (by decide) ?_
        exact ih (j + 1) (by omega)
  refine r_iconst (v := 0) C dX8_rank_41 (by decide) ?_
  refine r_istore_n (i := 2) C dX8_rank_42 rfl (Nat.le_of_ble_eq_true rfl) ?_
  exact hloop i 0 (Nat.zero_add _)
