/-! ===== java.util.ArrayList over the small machine ===== -/
/-- the list at l holds xs, in the row d (4: none yet) -/
def AL (h : Hp) (l d : Nat) (xs : List Nat) : Prop :=
  hK h l = 0 ∧ hI h fA_size l = nI xs.length ∧ hR h fA_elementData l = some d ∧ xs.length ≤ 40 ∧
  ((d = 4 ∧ xs = []) ∨ (6 ≤ d ∧ hK h d = 103 ∧ xs.length ≤ hL h d ∧ hL h d ≤ 60 ∧ ∀ (i x : Nat), xs[i]? = some x → hQ h d i = some x))
/-- what a call on the list at l leaves as it was; its row is d' behind it -/
def ALf (h h' : Hp) (l d d' : Nat) : Prop :=
  ((d' = d ∧ hN h' = hN h ∧ hK h' = hK h ∧ hL h' = hL h) ∨ (d' = hN h ∧ hN h' = hN h + 1 ∧ hK h' = va_up (hK h) (hN h) 103 ∧ ∃ n, n ≤ 60 ∧ hL h' = va_up (hL h) (hN h) n)) ∧
  (∀ f, f ≠ fA_modCount → f ≠ fA_size → hI h' f = hI h f) ∧ (∀ f b, b ≠ l → hI h' f b = hI h f b) ∧
  (∀ f, f ≠ fA_elementData → hR h' f = hR h f) ∧ (∀ f b, b ≠ l → hR h' f b = hR h f b) ∧
  hA h' = hA h ∧ hW h' = hW h ∧ (∀ b, b ≠ d' → hQ h' b = hQ h b)
theorem AL_len {h : Hp} {l d : Nat} {xs : List Nat} (H : AL h l d xs) : xs.length < 2 ^ 31 := Nat.lt_of_le_of_lt H.2.2.2.1 (by decide)
theorem c_checkIndex3 (l : Launch) (G : Gl) {h : Hp} {i n : Nat} (hi : i < n) (hn : n < 2 ^ 31) : MRw l G yJ3_checkIndex_8e157 (.code yJ3_checkIndex_8e157 cJ3_checkIndex_8e157 3 (Option.some Jvm.ClassFile.FieldType.int)) 0 0 0 [.int (nI i), .int (nI n), .null] h (.inl (some (.int (nI i)), h)) := by
  refine mr_of (by decide +kernel) (Nat.le_of_ble_eq_true rfl) (ct3 (by first | rfl | exact isR_cat (isR_rf _)) (by first | rfl | exact isR_cat (isR_rf _)) (by first | rfl | exact isR_cat (isR_rf _))) (fun X hG hl C E => ?_)
  subst hG hl
  refine r_iload_n (i := 0) C dJ3_checkIndex_8e157_0 rfl rfl ?_
  refine r_if_lt (tgt := 9) C dJ3_checkIndex_8e157_1 (by decide) (fun c_1 => ?_) (fun c_1 => ?_)
  · exact absurd c_1 (nI_pos (by omega))
  · refine r_iload_n (i := 0) C dJ3_checkIndex_8e157_4 rfl rfl ?_
    refine r_iload_n (i := 1) C dJ3_checkIndex_8e157_5 rfl rfl ?_
    refine r_ic_lt (tgt := 16) C dJ3_checkIndex_8e157_6 (by decide) (fun c_6 => ?_) (fun c_6 => ?_)
    · refine r_iload_n (i := 0) C dJ3_checkIndex_8e157_16 rfl rfl ?_
      exact r_iret C E dJ3_checkIndex_8e157_17 rfl rfl (by first | exact Nat.le_refl _ | exact Nat.le_of_ble_eq_true rfl | omega) (by first | exact Nat.le_refl _ | exact Nat.le_of_ble_eq_true rfl | omega)
    · exact absurd (nI_lt hi hn) c_6
theorem c_checkIndex (l : Launch) (G : Gl) {h : Hp} {i n : Nat} (hi : i < n) (hn : n < 2 ^ 31) : MRw l G yJ15_checkIndex_7cf53 (.code yJ15_checkIndex_7cf53 cJ15_checkIndex_7cf53 2 (Option.some Jvm.ClassFile.FieldType.int)) 1 0 0 [.int (nI i), .int (nI n)] h (.inl (some (.int (nI i)), h)) := by
  refine mr_of (by decide +kernel) (Nat.le_of_ble_eq_true rfl) (ct2 (by first | rfl | exact isR_cat (isR_rf _)) (by first | rfl | exact isR_cat (isR_rf _))) (fun X hG hl C E => ?_)
  subst hG hl
  refine r_iload_n (i := 0) C dJ15_checkIndex_7cf53_0 rfl rfl ?_
  refine r_iload_n (i := 1) C dJ15_checkIndex_7cf53_1 rfl rfl ?_
  refine r_null C dJ15_checkIndex_7cf53_2 ?_
  refine r_callSs C s_J15_105 (c_checkIndex3 _ _ hi hn) dJ15_checkIndex_7cf53_3 (As := [_, _, _]) rfl rfl rfl (by first | exact Nat.le_refl _ | exact Nat.le_of_ble_eq_true rfl | omega) (Nat.le_of_ble_eq_true rfl) (by first | exact Nat.le_refl _ | exact Nat.le_of_ble_eq_true rfl | omega) (by first | exact Nat.le_refl _ | exact Nat.le_of_ble_eq_true rfl | omega) ?_
  exact r_iret C E dJ15_checkIndex_7cf53_6 rfl rfl (by first | exact Nat.le_refl _ | exact Nat.le_of_ble_eq_true rfl | omega) (by first | exact Nat.le_refl _ | exact Nat.le_of_ble_eq_true rfl | omega)
theorem c_size (l : Launch) (G : Gl) {h : Hp} {a : Nat} (hk : hK h a = 0) : MRw l G yJx4a65c_size_8abf5 (.code yJx4a65c_size_8abf5 cJx4a65c_size_8abf5 1 (Option.some Jvm.ClassFile.FieldType.int)) 0 0 0 [.ref a] h (.inl (some (.int (hI h fA_size a)), h)) := by
  refine mr_of (by decide +kernel) (Nat.le_of_ble_eq_true rfl) (ct1 (by first | rfl | exact isR_cat (isR_rf _))) (fun X hG hl C E => ?_)
  subst hG hl
  refine r_aload_n (i := 0) C dJx4a65c_size_8abf5_0 rfl rfl (by first | rfl | exact isR_rf _) ?_
  refine r_getI C f_Jx4a65c_48 dJx4a65c_size_8abf5_1 rfl (by assumption) ?_
  exact r_iret C E dJx4a65c_size_8abf5_4 rfl rfl (by first | exact Nat.le_refl _ | exact Nat.le_of_ble_eq_true rfl | omega) (by first | exact Nat.le_refl _ | exact Nat.le_of_ble_eq_true rfl | omega)
theorem c_isEmpty (l : Launch) (G : Gl) {h : Hp} {a : Nat} (hk : hK h a = 0) : MRw l G yJx4a65c_isEmpty_aae02 (.code yJx4a65c_isEmpty_aae02 cJx4a65c_isEmpty_aae02 1 (Option.some Jvm.ClassFile.FieldType.boolean)) 0 0 0 [.ref a] h (.inl (some (.int (if hI h fA_size a = 0 then 1 else 0)), h)) := by
  refine mr_of (by decide +kernel) (Nat.le_of_ble_eq_true rfl) (ct1 (by first | rfl | exact isR_cat (isR_rf _))) (fun X hG hl C E => ?_)
  subst hG hl
  refine r_aload_n (i := 0) C dJx4a65c_isEmpty_aae02_0 rfl rfl (by first | rfl | exact isR_rf _) ?_
  refine r_getI C f_Jx4a65c_48 dJx4a65c_isEmpty_aae02_1 rfl (by assumption) ?_
  refine r_if_ne (tgt := 11) C dJx4a65c_isEmpty_aae02_4 (by decide) (fun c_4 => ?_) (fun c_4 => ?_)
  · rw [if_neg c_4] at E
    refine r_iconst (v := 0) C dJx4a65c_isEmpty_aae02_11 (by decide) ?_
    exact r_iret C E dJx4a65c_isEmpty_aae02_12 rfl (bo_nar (by first | exact Or.inl rfl | exact Or.inr rfl | assumption)).1 (by first | exact Nat.le_refl _ | exact Nat.le_of_ble_eq_true rfl | omega) (by first | exact Nat.le_refl _ | exact Nat.le_of_ble_eq_true rfl | omega)
  · rw [if_pos c_4] at E
    refine r_iconst (v := 1) C dJx4a65c_isEmpty_aae02_7 (by decide) ?_
    refine r_goto (tgt := 12) C dJx4a65c_isEmpty_aae02_8 (by decide) ?_
    exact r_iret C E dJx4a65c_isEmpty_aae02_12 rfl (bo_nar (by first | exact Or.inl rfl | exact Or.inr rfl | assumption)).1 (by first | exact Nat.le_refl _ | exact Nat.le_of_ble_eq_true rfl | omega) (by first | exact Nat.le_refl _ | exact Nat.le_of_ble_eq_true rfl | omega)
theorem c_elementData (l : Launch) (G : Gl) {h : Hp} {a d i x : Nat} {xs : List Nat} (hL : AL h a d xs) (hx : xs[i]? = some x) : MRw l G yJx4a65c_elementData_915e3 (.code yJx4a65c_elementData_915e3 cJx4a65c_elementData_915e3 2 (Option.some (Jvm.ClassFile.FieldType.object "java/lang/Object"))) 0 0 0 [.ref a, .int (nI i)] h (.inl (some (.ref x), h)) := by
  obtain ⟨hk, h1, h2, h3, h4⟩ := hL
  have hi : i < xs.length := (List.getElem?_eq_some_iff.mp hx).1
  rcases h4 with ⟨-, rfl⟩ | ⟨-, h5, h6, h7, h8⟩
  · cases hi
  have e8 := h8 i x hx
  refine mr_of (by decide +kernel) (Nat.le_of_ble_eq_true rfl) (ct2 (by first | rfl | exact isR_cat (isR_rf _)) (by first | rfl | exact isR_cat (isR_rf _))) (fun X hG hl C E => ?_)
  subst hG hl
  refine r_aload_n (i := 0) C dJx4a65c_elementData_915e3_0 rfl rfl (by first | rfl | exact isR_rf _) ?_
  refine r_getR C f_Jx4a65c_9 dJx4a65c_elementData_915e3_1 rfl (by assumption) ?_
  rw [h2]
  refine r_iload_n (i := 1) C dJx4a65c_elementData_915e3_4 rfl rfl ?_
  refine r_aald (q := 0) C dJx4a65c_elementData_915e3_5 (by assumption) (by decide) rfl (Nat.lt_of_lt_of_le hi h6) ?_
  rw [e8]
  first | exact r_aret (o := some _) C E dJx4a65c_elementData_915e3_6 rfl rfl (by first | exact Nat.le_refl _ | exact Nat.le_of_ble_eq_true rfl | omega) (by first | exact Nat.le_refl _ | exact Nat.le_of_ble_eq_true rfl | omega) | exact r_aret (o := none) C E dJx4a65c_elementData_915e3_6 rfl rfl (by first | exact Nat.le_refl _ | exact Nat.le_of_ble_eq_true rfl | omega) (by first | exact Nat.le_refl _ | exact Nat.le_of_ble_eq_true rfl | omega) | exact r_aret C E dJx4a65c_elementData_915e3_6 rfl rfl (by first | exact Nat.le_refl _ | exact Nat.le_of_ble_eq_true rfl | omega) (by first | exact Nat.le_refl _ | exact Nat.le_of_ble_eq_true rfl | omega)
theorem c_get (l : Launch) (G : Gl) {h : Hp} {a d i x : Nat} {xs : List Nat} (hL : AL h a d xs) (hx : xs[i]? = some x) : MRw l G yJx4a65c_get_915e3 (.code yJx4a65c_get_915e3 cJx4a65c_get_915e3 2 (Option.some (Jvm.ClassFile.FieldType.object "java/lang/Object"))) 2 0 0 [.ref a, .int (nI i)] h (.inl (some (.ref x), h)) := by
  have hk := hL.1
  have hi : i < xs.length := (List.getElem?_eq_some_iff.mp hx).1
  have hn := AL_len hL
  refine mr_of (by decide +kernel) (Nat.le_of_ble_eq_true rfl) (ct2 (by first | rfl | exact isR_cat (isR_rf _)) (by first | rfl | exact isR_cat (isR_rf _))) (fun X hG hl C E => ?_)
  subst hG hl
  refine r_iload_n (i := 1) C dJx4a65c_get_915e3_0 rfl rfl ?_
  refine r_aload_n (i := 0) C dJx4a65c_get_915e3_1 rfl rfl (by first | rfl | exact isR_rf _) ?_
  refine r_getI C f_Jx4a65c_48 dJx4a65c_get_915e3_2 rfl (by assumption) ?_
  rw [hL.2.1]
  refine r_callSs C s_Jx4a65c_118 (c_checkIndex _ _ hi hn) dJx4a65c_get_915e3_5 (As := [_, _]) rfl rfl rfl (by first | exact Nat.le_refl _ | exact Nat.le_of_ble_eq_true rfl | omega) (Nat.le_of_ble_eq_true rfl) (by first | exact Nat.le_refl _ | exact Nat.le_of_ble_eq_true rfl | omega) (by first | exact Nat.le_refl _ | exact Nat.le_of_ble_eq_true rfl | omega) ?_
  refine r_pop C (by first | rfl | exact isR_cat (isR_rf _)) dJx4a65c_get_915e3_8 ?_
  refine r_aload_n (i := 0) C dJx4a65c_get_915e3_9 rfl rfl (by first | rfl | exact isR_rf _) ?_
  refine r_iload_n (i := 1) C dJx4a65c_get_915e3_10 rfl rfl ?_
  refine r_callVs C v_Jx4a65c_123 (c_elementData _ _ hL hx) dJx4a65c_get_915e3_11 (by assumption) (ci := 0) (by decide) rfl rfl (As := [_]) rfl rfl rfl (by first | exact Nat.le_refl _ | exact Nat.le_of_ble_eq_true rfl | omega) (Nat.le_of_ble_eq_true rfl) (by first | exact Nat.le_refl _ | exact Nat.le_of_ble_eq_true rfl | omega) (by first | exact Nat.le_refl _ | exact Nat.le_of_ble_eq_true rfl | omega) ?_
  first | exact r_aret (o := some _) C E dJx4a65c_get_915e3_14 rfl rfl (by first | exact Nat.le_refl _ | exact Nat.le_of_ble_eq_true rfl | omega) (by first | exact Nat.le_refl _ | exact Nat.le_of_ble_eq_true rfl | omega) | exact r_aret (o := none) C E dJx4a65c_get_915e3_14 rfl rfl (by first | exact Nat.le_refl _ | exact Nat.le_of_ble_eq_true rfl | omega) (by first | exact Nat.le_refl _ | exact Nat.le_of_ble_eq_true rfl | omega) | exact r_aret C E dJx4a65c_get_915e3_14 rfl rfl (by first | exact Nat.le_refl _ | exact Nat.le_of_ble_eq_true rfl | omega) (by first | exact Nat.le_refl _ | exact Nat.le_of_ble_eq_true rfl | omega)

/-! growing, adding, removing -/
theorem c_newLength (l : Launch) (G : Gl) {h : Hp} {n m : Nat} (hn : n ≤ 100) (hm : m ≤ 100) : MRw l G yJ8_newLength_cabcc (.code yJ8_newLength_cabcc cJ8_newLength_cabcc 4 (Option.some Jvm.ClassFile.FieldType.int)) 1 0 0 [.int (nI n), .int (nI 1), .int (nI m)] h (.inl (some (.int (nI (n + max 1 m))), h)) := by
  have e1 : (if nI 1 < nI m then nI m else nI 1) = nI (max 1 m) := by
    by_cases q : 1 < m
    · rw [if_pos (nI_lt q (by omega)), Nat.max_eq_right (by omega)]
    · rw [if_neg (nI_nlt (by omega) (by omega)), Nat.max_eq_left (by omega)]
  refine mr_of (by decide +kernel) (Nat.le_of_ble_eq_true rfl) (ct3 (by first | rfl | exact isR_cat (isR_rf _)) (by first | rfl | exact isR_cat (isR_rf _)) (by first | rfl | exact isR_cat (isR_rf _))) (fun X hG hl C E => ?_)
  subst hG hl
  refine r_iload_n (i := 0) C dJ8_newLength_cabcc_0 rfl rfl ?_
  refine r_iload_n (i := 1) C dJ8_newLength_cabcc_1 rfl rfl ?_
  refine r_iload_n (i := 2) C dJ8_newLength_cabcc_2 rfl rfl ?_
  refine r_mmax C dJ8_newLength_cabcc_3 (by first | exact Nat.le_refl _ | exact Nat.le_of_ble_eq_true rfl | omega) rfl (Nat.le_of_ble_eq_true rfl) l_J8_194 w_maxS w_mathI w_maxC (by first | exact Nat.le_refl _ | exact Nat.le_of_ble_eq_true rfl | omega) (by first | exact Nat.le_refl _ | exact Nat.le_of_ble_eq_true rfl | omega) ?_
  refine r_iadd C dJ8_newLength_cabcc_6 ?_
  rw [e1, nI_add]
  refine r_istore_n (i := 3) C dJ8_newLength_cabcc_7 rfl (Nat.le_of_ble_eq_true rfl) ?_
  refine r_iconst (v := 0) C dJ8_newLength_cabcc_8 (by decide) ?_
  refine r_iload_n (i := 3) C dJ8_newLength_cabcc_9 rfl rfl ?_
  refine r_ic_ge (tgt := 21) C dJ8_newLength_cabcc_10 (by decide) (fun c_10 => ?_) (fun c_10 => ?_)
  · exact absurd c_10 (nI_ge (a := 0) (by omega) (by omega))
  · refine r_iload_n (i := 3) C dJ8_newLength_cabcc_13 rfl rfl ?_
    refine r_ldcI C dJ8_newLength_cabcc_14 q_J8_200 ?_
    refine r_ic_gt (tgt := 21) C dJ8_newLength_cabcc_16 (by decide) (fun c_16 => ?_) (fun c_16 => ?_)
    · exact absurd c_16 (nI_nlt (b := n + max 1 m) (a := 2147483639) (by omega) (by omega))
    · refine r_iload_n (i := 3) C dJ8_newLength_cabcc_19 rfl rfl ?_
      exact r_iret C E dJ8_newLength_cabcc_20 rfl rfl (by first | exact Nat.le_refl _ | exact Nat.le_of_ble_eq_true rfl | omega) (by first | exact Nat.le_refl _ | exact Nat.le_of_ble_eq_true rfl | omega)
theorem c_copyOf3 (l : Launch) (G : Gl) {h : Hp} {d n m ci : Nat} {r : vw_C} (hk : hK h d = 103) (hl : hL h d ≤ m) (hm : m ≤ 100) (hci : ci < 100) (hr : mCl[ci]? = some r) (hrn : (r.1, "java/lang/Object") ∈ castL) (hel : ∀ i, i < hL h d → ∀ z, hQ h d i = some z → hK h z = ci) (hn : hN h = n) :
    MRw l G yJ7_copyOf_6403c (.code yJ7_copyOf_6403c cJ7_copyOf_6403c 4 (Option.some (Jvm.ClassFile.FieldType.array (Jvm.ClassFile.FieldType.object "java/lang/Object")))) 1 1 m [.ref d, .int (nI m), .ref 5] h (.inl (some (.ref n), sQf (nw h 103 m) n (va_cpy (hQ h d) (hQ h n) 0 0 (hL h d)))) := by
  subst hn
  refine mr_of (by decide +kernel) (Nat.le_of_ble_eq_true rfl) (ct3 (by first | rfl | exact isR_cat (isR_rf _)) (by first | rfl | exact isR_cat (isR_rf _)) (by first | rfl | exact isR_cat (isR_rf _))) (fun X hG hl C E => ?_)
  subst hG hl
  refine wr_good (fun hg => ?_)
  have hdn := kind_in hg hk (by decide)
  have hl31 : hL h d < 2 ^ 31 := by omega
  have e1 : (if nI m < nI (hL h d) then nI m else nI (hL h d)) = nI (hL h d) := if_neg (nI_nlt hl (by omega))
  refine r_aload_n (i := 2) C dJ7_copyOf_6403c_0 rfl rfl (by first | rfl | exact isR_rf _) ?_
  refine r_ldcM C dJ7_copyOf_6403c_1 c_J7_110 ?_
  refine r_ac_ne (o1 := some _) (o2 := some _) (tgt := 13) C dJ7_copyOf_6403c_3 (by decide) (fun a b ha hb => Or.inl ((Option.some.inj ha).symm.trans (Option.some.inj hb))) (fun c_3 => absurd rfl c_3) (fun c_3 => ?_)
  refine r_iload_n (i := 1) C dJ7_copyOf_6403c_6 rfl rfl ?_
  refine r_newq (t := 0) C dJ7_copyOf_6403c_7 rfl (by omega) (by decide) c_J7_2 (by decide) (Nat.le_of_eq (Nat.zero_add m)) ?_
  refine r_goto (tgt := 24) C dJ7_copyOf_6403c_10 (by decide) ?_
  refine r_astore_n (i := 3) C dJ7_copyOf_6403c_24 rfl (Nat.le_of_ble_eq_true rfl) (by first | rfl | exact isR_rf _) ?_
  refine r_aload_n (i := 0) C dJ7_copyOf_6403c_25 rfl rfl (by first | rfl | exact isR_rf _) ?_
  refine r_iconst (v := 0) C dJ7_copyOf_6403c_26 (by decide) ?_
  refine r_aload_n (i := 3) C dJ7_copyOf_6403c_27 rfl rfl (by first | rfl | exact isR_rf _) ?_
  refine r_iconst (v := 0) C dJ7_copyOf_6403c_28 (by decide) ?_
  refine r_aload_n (i := 0) C dJ7_copyOf_6403c_29 rfl rfl (by first | rfl | exact isR_rf _) ?_
  have hk1 : hK (nw h (103 + 0) m) d = 103 := by rw [show hK (nw h (103 + 0) m) d = hK h d from va_up_ne _ _ (by omega)]; exact hk
  have hk2 : hK (nw h (103 + 0) m) (hN h) = 103 := va_up_self _ _ _
  have el : hL (nw h (103 + 0) m) d = hL h d := va_up_ne _ _ (by omega)
  have el2 : hL (nw h (103 + 0) m) (hN h) = m := va_up_self _ _ _
  refine r_alen C dJ7_copyOf_6403c_30 (by assumption) (by decide) ?_
  refine r_iload_n (i := 1) C dJ7_copyOf_6403c_31 rfl rfl ?_
  rw [el]
  refine r_mmin C dJ7_copyOf_6403c_32 (by first | exact Nat.le_refl _ | exact Nat.le_of_ble_eq_true rfl | omega) rfl (Nat.le_of_ble_eq_true rfl) l_J7_304 w_minS w_mathI w_minC (by first | exact Nat.le_refl _ | exact Nat.le_of_ble_eq_true rfl | omega) (by first | exact Nat.le_refl _ | exact Nat.le_of_ble_eq_true rfl | omega) ?_
  rw [e1]
  refine r_acopy (ci := ci) (i0 := 0) (i1 := 0) (ln := hL h d) C dJ7_copyOf_6403c_35 hk1 hk2 rfl rfl rfl (by rw [el]; omega) (by rw [el2]; omega) hci hr hrn (fun i hi z hz => ?_) (by omega) rfl (Nat.le_of_ble_eq_true rfl) l_J7_150 w_acN w_acS w_sysI ?_
  · rw [Nat.zero_add] at hz
    have hzn : z < hN h := hg.2.2.2.2.1 _ _ _ hz
    rw [show hK (nw h (103 + 0) m) z = hK h z from va_up_ne _ _ (by omega)]
    exact hel i hi z hz
  refine r_aload_n (i := 3) C dJ7_copyOf_6403c_38 rfl rfl (by first | rfl | exact isR_rf _) ?_
  refine r_aret (o := some _) C E dJ7_copyOf_6403c_39 rfl rfl (by omega) (by omega)
theorem c_copyOf (l : Launch) (G : Gl) {h : Hp} {d n m ci : Nat} {r : vw_C} (hk : hK h d = 103) (hl : hL h d ≤ m) (hm : m ≤ 100) (hci : ci < 100) (hr : mCl[ci]? = some r) (hrn : (r.1, "java/lang/Object") ∈ castL) (hel : ∀ i, i < hL h d → ∀ z, hQ h d i = some z → hK h z = ci) (hn : hN h = n) :
    MRw l G yJ7_copyOf_1904c (.code yJ7_copyOf_1904c cJ7_copyOf_1904c 2 (Option.some (Jvm.ClassFile.FieldType.array (Jvm.ClassFile.FieldType.object "java/lang/Object")))) 2 1 m [.ref d, .int (nI m)] h (.inl (some (.ref n), sQf (nw h 103 m) n (va_cpy (hQ h d) (hQ h n) 0 0 (hL h d)))) := by
  refine mr_of (by decide +kernel) (Nat.le_of_ble_eq_true rfl) (ct2 (by first | rfl | exact isR_cat (isR_rf _)) (by first | rfl | exact isR_cat (isR_rf _))) (fun X hG hl C E => ?_)
  subst hG hl
  refine r_aload_n (i := 0) C dJ7_copyOf_1904c_0 rfl rfl (by first | rfl | exact isR_rf _) ?_
  refine r_iload_n (i := 1) C dJ7_copyOf_1904c_1 rfl rfl ?_
  refine r_aload_n (i := 0) C dJ7_copyOf_1904c_2 rfl rfl (by first | rfl | exact isR_rf _) ?_
  refine r_getC C dJ7_copyOf_1904c_3 hk (by omega) rfl (Nat.le_of_ble_eq_true rfl) l_J7_86 w_gcS w_gcI w_gcN ?_
  refine r_callSs C s_J7_300 (c_copyOf3 _ _ hk hl hm hci hr hrn hel hn) dJ7_copyOf_1904c_6 (As := [_, _, _]) rfl rfl rfl (by first | exact Nat.le_refl _ | exact Nat.le_of_ble_eq_true rfl | omega) (Nat.le_of_ble_eq_true rfl) (by first | exact Nat.le_refl _ | exact Nat.le_of_ble_eq_true rfl | omega) (by first | exact Nat.le_refl _ | exact Nat.le_of_ble_eq_true rfl | omega) ?_
  refine r_aret (o := some _) C E dJ7_copyOf_1904c_9 rfl rfl (by omega) (by omega)
