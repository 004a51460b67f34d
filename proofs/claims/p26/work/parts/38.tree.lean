/-! ===== Tree ===== -/
theorem c_treeSize (l : Launch) (G : Gl) {h : Hp} {t R : Nat} (hk : hK h t = 8) (hR1 : hR h fT_row t = some R) (hkR : hK h R = 0) : MRw l G yX10_size (.code yX10_size cX10_size 1 (Option.some Jvm.ClassFile.FieldType.int)) 1 0 0 [.ref t] h (.inl (some (.int (hI h fA_size R)), h)) := by
  refine mr_of (by decide +kernel) (Nat.le_of_ble_eq_true rfl) (ct1 (by first | rfl | exact isR_cat (isR_rf _))) (fun X hG hl C E => ?_)
  subst hG hl
  refine r_aload_n (i := 0) C dX10_size_0 rfl rfl (by first | rfl | exact isR_rf _) ?_
  refine r_getR C f_X10_10 dX10_size_1 rfl (by assumption) ?_
  rw [hR1]
  refine r_callVs C v_X10_34 (c_size _ _ hkR) dX10_size_4 (by assumption) (ci := 0) (by decide) rfl rfl (As := []) rfl rfl rfl (by first | exact Nat.le_refl _ | exact Nat.le_of_ble_eq_true rfl | omega) (Nat.le_of_ble_eq_true rfl) (by first | exact Nat.le_refl _ | exact Nat.le_of_ble_eq_true rfl | omega) (by first | exact Nat.le_refl _ | exact Nat.le_of_ble_eq_true rfl | omega) ?_
  exact r_iret C E dX10_size_7 rfl rfl (by first | exact Nat.le_refl _ | exact Nat.le_of_ble_eq_true rfl | omega) (by first | exact Nat.le_refl _ | exact Nat.le_of_ble_eq_true rfl | omega)
theorem c_treeGet (l : Launch) (G : Gl) {h : Hp} {t R d i e : Nat} {es : List Nat} (hk : hK h t = 8) (hR1 : hR h fT_row t = some R) (hAL : AL h R d es) (he : es[i]? = some e) (hke : hK h e = 3) : MRw l G yX10_get (.code yX10_get cX10_get 2 (Option.some (Jvm.ClassFile.FieldType.object "CascadeHouse$Element"))) 3 0 0 [.ref t, .int (nI i)] h (.inl (some (.ref e), h)) := by
  have hkR := hAL.1
  refine mr_of (by decide +kernel) (Nat.le_of_ble_eq_true rfl) (ct2 (by first | rfl | exact isR_cat (isR_rf _)) (by first | rfl | exact isR_cat (isR_rf _))) (fun X hG hl C E => ?_)
  subst hG hl
  refine r_aload_n (i := 0) C dX10_get_0 rfl rfl (by first | rfl | exact isR_rf _) ?_
  refine r_getR C f_X10_10 dX10_get_1 rfl (by assumption) ?_
  rw [hR1]
  refine r_iload_n (i := 1) C dX10_get_4 rfl rfl ?_
  refine r_callVs C v_X10_38 (c_get _ _ hAL he) dX10_get_5 (by assumption) (ci := 0) (by decide) rfl rfl (As := [_]) rfl rfl rfl (by first | exact Nat.le_refl _ | exact Nat.le_of_ble_eq_true rfl | omega) (Nat.le_of_ble_eq_true rfl) (by first | exact Nat.le_refl _ | exact Nat.le_of_ble_eq_true rfl | omega) (by first | exact Nat.le_refl _ | exact Nat.le_of_ble_eq_true rfl | omega) ?_
  refine r_cast (o := some _) (ci := 3) C dX10_get_8 c_X10_19 rfl (by decide) (by decide +kernel) (fun a q => by cases q; exact hke) ?_
  exact r_aret (o := some e) C E dX10_get_11 rfl rfl (Nat.le_refl _) (Nat.le_refl _)
/-- the first element with the number x -/
def fnd (h : Hp) (x : Int32) : List Nat → Option Nat
  | [] => none
  | e :: es => if hI h fE_number e = x then some e else fnd h x es
theorem c_treeFind (l : Launch) (G : Gl) {h : Hp} {t R d : Nat} {es : List Nat} {x : Int32} (hk : hK h t = 8) (hR1 : hR h fT_row t = some R) (hAL : AL h R d es) (hke : ∀ e, e ∈ es → hK h e = 3) : MRw l G yX10_find (.code yX10_find cX10_find 4 (Option.some (Jvm.ClassFile.FieldType.object "CascadeHouse$Element"))) 3 0 0 [.ref t, .int x] h (.inl (some (va_rf (fnd h x es)), h)) := by
  have hkR := hAL.1
  have hsz := hAL.2.1
  have hlen := AL_len hAL
  refine mr_of (by decide +kernel) (Nat.le_of_ble_eq_true rfl) (ct2 (by first | rfl | exact isR_cat (isR_rf _)) (by first | rfl | exact isR_cat (isR_rf _))) (fun X hG hl C E => ?_)
  subst hG hl
  have hloop : ∀ (td : List Nat) (j : Nat), es.drop j = td → j ≤ es.length → fnd h x es = fnd h x td → ∀ v3, wr X 0 0 2 [.ref t, .int x, .int (nI j), v3] [] h := by
    intro td
    induction td with
    | nil =>
      intro j hd hj heq v3
      have hle : es.length ≤ j := List.drop_eq_nil_iff.mp hd
      rw [heq] at E
      refine r_iload_n (i := 2) C dX10_find_2 rfl rfl ?_
      refine r_aload_n (i := 0) C dX10_find_3 rfl rfl (by first | rfl | exact isR_rf _) ?_
      refine r_getR C f_X10_10 dX10_find_4 rfl (by assumption) ?_
      rw [hR1]
      refine r_callVs C v_X10_34 (c_size _ _ hkR) dX10_find_7 (by assumption) (ci := 0) (by decide) rfl rfl (As := []) rfl rfl rfl (by first | exact Nat.le_refl _ | exact Nat.le_of_ble_eq_true rfl | omega) (Nat.le_of_ble_eq_true rfl) (by first | exact Nat.le_refl _ | exact Nat.le_of_ble_eq_true rfl | omega) (by first | exact Nat.le_refl _ | exact Nat.le_of_ble_eq_true rfl | omega) ?_
      rw [hsz]
      refine rn_ic_ge C j es.length rfl rfl (by omega) hlen (tgt := 41) dX10_find_10 (by decide) (fun _ => ?_) (fun c => absurd c (by omega))
      refine r_null C dX10_find_41 ?_
      exact r_aret (o := none) C E dX10_find_42 rfl rfl (Nat.le_refl _) (Nat.le_refl _)
    | cons e td ih =>
      intro j hd hj heq v3
      have hlt : j < es.length := Nat.lt_of_not_le fun z => by rw [List.drop_eq_nil_iff.mpr z] at hd; cases hd
      rw [List.drop_eq_getElem_cons hlt] at hd
      have hrj : es[j]? = some e := by rw [List.getElem?_eq_getElem hlt, (List.cons.inj hd).1]
      have hd' : es.drop (j + 1) = td := (List.cons.inj hd).2
      have hkx := hke e (List.mem_of_getElem? hrj)
      refine r_iload_n (i := 2) C dX10_find_2 rfl rfl ?_
      refine r_aload_n (i := 0) C dX10_find_3 rfl rfl (by first | rfl | exact isR_rf _) ?_
      refine r_getR C f_X10_10 dX10_find_4 rfl (by assumption) ?_
      rw [hR1]
      refine r_callVs C v_X10_34 (c_size _ _ hkR) dX10_find_7 (by assumption) (ci := 0) (by decide) rfl rfl (As := []) rfl rfl rfl (by first | exact Nat.le_refl _ | exact Nat.le_of_ble_eq_true rfl | omega) (Nat.le_of_ble_eq_true rfl) (by first | exact Nat.le_refl _ | exact Nat.le_of_ble_eq_true rfl | omega) (by first | exact Nat.le_refl _ | exact Nat.le_of_ble_eq_true rfl | omega) ?_
      rw [hsz]
      refine rn_ic_ge C j es.length rfl rfl (by omega) hlen (tgt := 41) dX10_find_10 (by decide) (fun c => absurd c (by omega)) (fun _ => ?_)
      refine r_aload_n (i := 0) C dX10_find_13 rfl rfl (by first | rfl | exact isR_rf _) ?_
      refine r_getR C f_X10_10 dX10_find_14 rfl (by assumption) ?_
      rw [hR1]
      refine r_iload_n (i := 2) C dX10_find_17 rfl rfl ?_
      refine r_callVs C v_X10_38 (c_get _ _ hAL hrj) dX10_find_18 (by assumption) (ci := 0) (by decide) rfl rfl (As := [_]) rfl rfl rfl (by first | exact Nat.le_refl _ | exact Nat.le_of_ble_eq_true rfl | omega) (Nat.le_of_ble_eq_true rfl) (by first | exact Nat.le_refl _ | exact Nat.le_of_ble_eq_true rfl | omega) (by first | exact Nat.le_refl _ | exact Nat.le_of_ble_eq_true rfl | omega) ?_
      refine r_cast (o := some _) (ci := 3) C dX10_find_21 c_X10_19 rfl (by decide) (by decide +kernel) (fun a q => by cases q; exact hkx) ?_
      refine r_astore_n (i := 3) C dX10_find_24 rfl (Nat.le_of_ble_eq_true rfl) (by first | rfl | exact isR_rf _) ?_
      refine r_aload_n (i := 3) C dX10_find_25 rfl rfl (by first | rfl | exact isR_rf _) ?_
      refine r_getI C f_X10_42 dX10_find_26 rfl (by assumption) ?_
      refine r_iload_n (i := 1) C dX10_find_29 rfl rfl ?_
      refine r_ic_ne (tgt := 35) C dX10_find_30 (by decide) (fun c_30 => ?_) (fun c_30 => ?_)
      · refine r_iinc1 (i := 2) C dX10_find_35 rfl ?_
        rw [nI_1]
        refine r_goto (tgt := 2) C dX10_find_38 (by decide) ?_
        exact ih (j + 1) hd' hlt (heq.trans (if_neg c_30)) _
      · rw [heq, show fnd h x (e :: td) = some e from if_pos c_30] at E
        refine r_aload_n (i := 3) C dX10_find_33 rfl rfl (by first | rfl | exact isR_rf _) ?_
        exact r_aret (o := some e) C E dX10_find_34 rfl rfl (Nat.le_refl _) (Nat.le_refl _)
  refine r_iconst (v := 0) C dX10_find_0 (by decide) ?_
  refine r_istore_n (i := 2) C dX10_find_1 rfl (Nat.le_of_ble_eq_true rfl) ?_
  exact hloop es 0 rfl (Nat.zero_le _) rfl _
/-- the links around an element that is taken out -/
def ulA (h : Hp) (t : Nat) : Hp := match hR h fE_ahead t with
  | some a => sR h fE_next a (hR h fE_next t)
  | none => match hR h fE_parent t with
    | some p => sR h fE_first p (hR h fE_next t)
    | none => h
def ulB (h : Hp) (t : Nat) : Hp := match hR h fE_next t with
  | some a => sR h fE_ahead a (hR h fE_ahead t)
  | none => match hR h fE_parent t with
    | some p => sR h fE_last p (hR h fE_ahead t)
    | none => h
theorem ulA_K (h : Hp) (t : Nat) : hK (ulA h t) = hK h := by
  unfold ulA; split <;> (try split) <;> rfl
theorem c_unlink (l : Launch) (G : Gl) {h : Hp} {t : Nat} (hk : hK h t = 3) (ha : ∀ a, hR h fE_ahead t = some a → hK h a = 3 ∧ a ≠ t) (hn : ∀ a, hR h fE_next t = some a → hK h a = 3) (hp : ∀ a, hR h fE_parent t = some a → hK h a = 3) :
    MRw l G yX10_unlink (.code yX10_unlink cX10_unlink 1 none) 0 0 0 [.ref t] h (.inl (none, ulB (ulA h t) t)) := by
  have hn1 : hR (ulA h t) fE_next t = hR h fE_next t := by
    unfold ulA
    split
    · rename_i a e; rw [rR_nb (ha a e).2.symm]
    · split
      · rw [rR_ne (by decide)]
      · rfl
  have ha1 : hR (ulA h t) fE_ahead t = hR h fE_ahead t := by
    unfold ulA
    split
    · rw [rR_ne (by decide)]
    · split
      · rw [rR_ne (by decide)]
      · rfl
  have hp1 : hR (ulA h t) fE_parent t = hR h fE_parent t := by
    unfold ulA
    split
    · rw [rR_ne (by decide)]
    · split
      · rw [rR_ne (by decide)]
      · rfl
  have hk1 : hK (ulA h t) t = 3 := by rw [ulA_K]; exact hk
  refine mr_of (by decide +kernel) (Nat.le_of_ble_eq_true rfl) (ct1 (by first | rfl | exact isR_cat (isR_rf _))) (fun X hG hl C E => ?_)
  subst hG hl
  have h2 : wr X 0 0 39 [.ref t] [] (ulA h t) := by
    refine r_aload_n (i := 0) C dX10_unlink_39 rfl rfl (by first | rfl | exact isR_rf _) ?_
    refine r_getR C f_X10_65 dX10_unlink_40 rfl (by assumption) ?_
    rw [hn1]
    unfold ulB at E
    rw [hn1, ha1, hp1] at E
    cases en : hR h fE_next t with
    | some a =>
      rw [en] at E
      have hka : hK (ulA h t) a = 3 := by rw [ulA_K]; exact hn a en
      refine r_ifnull (o := some a) (tgt := 60) C dX10_unlink_43 (by decide) (fun c => nomatch c) (fun _ _ => ?_)
      refine r_aload_n (i := 0) C dX10_unlink_46 rfl rfl (by first | rfl | exact isR_rf _) ?_
      refine r_getR C f_X10_65 dX10_unlink_47 rfl (by assumption) ?_
      rw [hn1, en]
      refine r_aload_n (i := 0) C dX10_unlink_50 rfl rfl (by first | rfl | exact isR_rf _) ?_
      refine r_getR C f_X10_59 dX10_unlink_51 rfl (by assumption) ?_
      rw [ha1]
      refine r_putR C f_X10_59 dX10_unlink_54 rfl hka ?_
      refine r_goto (tgt := 78) C dX10_unlink_57 (by decide) ?_
      exact r_vret C E dX10_unlink_78 rfl (by first | exact Nat.le_refl _ | exact Nat.le_of_ble_eq_true rfl | omega) (by first | exact Nat.le_refl _ | exact Nat.le_of_ble_eq_true rfl | omega)
    | none =>
      rw [en] at E
      refine r_ifnull (o := none) (tgt := 60) C dX10_unlink_43 (by decide) (fun _ => ?_) (fun _ c => nomatch c)
      refine r_aload_n (i := 0) C dX10_unlink_60 rfl rfl (by first | rfl | exact isR_rf _) ?_
      refine r_getR C f_X10_52 dX10_unlink_61 rfl (by assumption) ?_
      rw [hp1]
      cases ep : hR h fE_parent t with
      | some p =>
        rw [ep] at E
        have hkp : hK (ulA h t) p = 3 := by rw [ulA_K]; exact hp p ep
        refine r_ifnull (o := some p) (tgt := 78) C dX10_unlink_64 (by decide) (fun c => nomatch c) (fun _ _ => ?_)
        refine r_aload_n (i := 0) C dX10_unlink_67 rfl rfl (by first | rfl | exact isR_rf _) ?_
        refine r_getR C f_X10_52 dX10_unlink_68 rfl (by assumption) ?_
        rw [hp1, ep]
        refine r_aload_n (i := 0) C dX10_unlink_71 rfl rfl (by first | rfl | exact isR_rf _) ?_
        refine r_getR C f_X10_59 dX10_unlink_72 rfl (by assumption) ?_
        rw [ha1]
        refine r_putR C f_X10_56 dX10_unlink_75 rfl hkp ?_
        exact r_vret C E dX10_unlink_78 rfl (by first | exact Nat.le_refl _ | exact Nat.le_of_ble_eq_true rfl | omega) (by first | exact Nat.le_refl _ | exact Nat.le_of_ble_eq_true rfl | omega)
      | none =>
        rw [ep] at E
        refine r_ifnull (o := none) (tgt := 78) C dX10_unlink_64 (by decide) (fun _ => ?_) (fun _ c => nomatch c)
        exact r_vret C E dX10_unlink_78 rfl (by first | exact Nat.le_refl _ | exact Nat.le_of_ble_eq_true rfl | omega) (by first | exact Nat.le_refl _ | exact Nat.le_of_ble_eq_true rfl | omega)
  refine r_aload_n (i := 0) C dX10_unlink_0 rfl rfl (by first | rfl | exact isR_rf _) ?_
  refine r_getR C f_X10_59 dX10_unlink_1 rfl (by assumption) ?_
  cases ea : hR h fE_ahead t with
  | some a =>
    have hka : hK h a = 3 := (ha a ea).1
    have e2 : ulA h t = sR h fE_next a (hR h fE_next t) := by unfold ulA; rw [ea]
    rw [e2] at h2
    refine r_ifnull (o := some a) (tgt := 21) C dX10_unlink_4 (by decide) (fun c => nomatch c) (fun _ _ => ?_)
    refine r_aload_n (i := 0) C dX10_unlink_7 rfl rfl (by first | rfl | exact isR_rf _) ?_
    refine r_getR C f_X10_59 dX10_unlink_8 rfl (by assumption) ?_
    rw [ea]
    refine r_aload_n (i := 0) C dX10_unlink_11 rfl rfl (by first | rfl | exact isR_rf _) ?_
    refine r_getR C f_X10_65 dX10_unlink_12 rfl (by assumption) ?_
    refine r_putR C f_X10_65 dX10_unlink_15 rfl hka ?_
    refine r_goto (tgt := 39) C dX10_unlink_18 (by decide) ?_
    exact h2
  | none =>
    refine r_ifnull (o := none) (tgt := 21) C dX10_unlink_4 (by decide) (fun _ => ?_) (fun _ c => nomatch c)
    refine r_aload_n (i := 0) C dX10_unlink_21 rfl rfl (by first | rfl | exact isR_rf _) ?_
    refine r_getR C f_X10_52 dX10_unlink_22 rfl (by assumption) ?_
    cases ep : hR h fE_parent t with
    | some p =>
      have hkp : hK h p = 3 := hp p ep
      have e2 : ulA h t = sR h fE_first p (hR h fE_next t) := by unfold ulA; rw [ea, ep]
      rw [e2] at h2
      refine r_ifnull (o := some p) (tgt := 39) C dX10_unlink_25 (by decide) (fun c => nomatch c) (fun _ _ => ?_)
      refine r_aload_n (i := 0) C dX10_unlink_28 rfl rfl (by first | rfl | exact isR_rf _) ?_
      refine r_getR C f_X10_52 dX10_unlink_29 rfl (by assumption) ?_
      rw [ep]
      refine r_aload_n (i := 0) C dX10_unlink_32 rfl rfl (by first | rfl | exact isR_rf _) ?_
      refine r_getR C f_X10_65 dX10_unlink_33 rfl (by assumption) ?_
      refine r_putR C f_X10_62 dX10_unlink_36 rfl hkp ?_
      exact h2
    | none =>
      have e2 : ulA h t = h := by unfold ulA; rw [ea, ep]
      rw [e2] at h2
      refine r_ifnull (o := none) (tgt := 39) C dX10_unlink_25 (by decide) (fun _ => ?_) (fun _ c => nomatch c)
      exact h2
