/-! ===== Element ===== -/
/-- a new look with its two rows -/
def nlk (h : Hp) : Hp := sR (nw (sR (nw (nw h 4 0) 100 14) fL_values (hN h) (some (hN h + 1))) 100 14) fL_sources (hN h) (some (hN h + 2))
theorem nlk_k {h : Hp} {a : Nat} (q : a < hN h) : hK (nlk h) a = hK h a := by
  show va_up (va_up (va_up (hK h) (hN h) 4) (hN h + 1) 100) (hN h + 1 + 1) 100 a = hK h a
  rw [va_up_ne _ _ (by omega), va_up_ne _ _ (by omega), va_up_ne _ _ (by omega)]
theorem c_elemInit (l : Launch) (G : Gl) {h : Hp} {e : Nat} (hk : hK h e = 3) (he : e < hN h) : MRw l G yX2_init (.code yX2_init cX2_init 1 none) 2 6 78 [.ref e] h (.inl (none, sR (nlk (sR (nlk h) fE_kept e (some (hN h)))) fE_fresh e (some (hN h + 3)))) := by
  refine mr_of (by decide +kernel) (Nat.le_of_ble_eq_true rfl) (ct1 (by first | rfl | exact isR_cat (isR_rf _))) (fun X hG hl C E => ?_)
  subst hG hl
  have hN9 : meth_nm X = "<init>" := cx_nm C
  refine r_aload_n (i := 0) C dX2_init_0 rfl rfl (by first | rfl | exact isR_rf _) ?_
  refine r_oinit C dX2_init_1 (by first | exact Nat.le_refl _ | exact Nat.le_of_ble_eq_true rfl | omega) rfl (by decide) l_X2_3 w_oiM w_oiC ?_
  refine r_aload_n (i := 0) C dX2_init_4 rfl rfl (by first | rfl | exact isR_rf _) ?_
  refine r_new C n_X2_9 dX2_init_5 (by first | exact Nat.le_refl _ | exact Nat.le_of_ble_eq_true rfl | omega) (by first | exact Nat.le_refl _ | exact Nat.le_of_ble_eq_true rfl | omega) ?_
  refine r_dup C (by first | rfl | exact isR_cat (isR_rf _)) dX2_init_8 ?_
  refine r_callN C i_X2_11 (c_lookInit _ _ (h := nw h 4 0) (k := hN h) (n := hN h + 1) (va_up_self _ _ _) rfl (Nat.lt_succ_self _)) dX2_init_9 (As := []) rfl rfl rfl (by first | exact Nat.le_refl _ | exact Nat.le_of_ble_eq_true rfl | omega) (Nat.le_of_ble_eq_true rfl) (by first | exact Nat.le_refl _ | exact Nat.le_of_ble_eq_true rfl | omega) (by first | exact Nat.le_refl _ | exact Nat.le_of_ble_eq_true rfl | omega) ?_
  have hk1 : hK (nlk h) e = 3 := by rw [nlk_k he]; exact hk
  change wr X 3 39 12 _ _ (nlk h)
  first | refine r_putR (o := some _) C f_X2_12 dX2_init_12 rfl (by assumption) ?_ | refine r_putR (o := none) C f_X2_12 dX2_init_12 rfl (by assumption) ?_ | refine r_putR C f_X2_12 dX2_init_12 rfl (by assumption) ?_
  refine r_aload_n (i := 0) C dX2_init_15 rfl rfl (by first | rfl | exact isR_rf _) ?_
  refine r_new C n_X2_9 dX2_init_16 (by first | exact Nat.le_refl _ | exact Nat.le_of_ble_eq_true rfl | omega) (by first | exact Nat.le_refl _ | exact Nat.le_of_ble_eq_true rfl | omega) ?_
  refine r_dup C (by first | rfl | exact isR_cat (isR_rf _)) dX2_init_19 ?_
  refine r_callN C i_X2_11 (c_lookInit _ _ (h := nw (sR (nlk h) fE_kept e (some (hN h))) 4 0) (k := hN h + 3) (n := hN h + 4) (va_up_self _ _ _) rfl (Nat.lt_succ_self _)) dX2_init_20 (As := []) rfl rfl rfl (by first | exact Nat.le_refl _ | exact Nat.le_of_ble_eq_true rfl | omega) (Nat.le_of_ble_eq_true rfl) (by first | exact Nat.le_refl _ | exact Nat.le_of_ble_eq_true rfl | omega) (by first | exact Nat.le_refl _ | exact Nat.le_of_ble_eq_true rfl | omega) ?_
  have hk2 : hK (nlk (sR (nlk h) fE_kept e (some (hN h)))) e = 3 := by rw [nlk_k (show e < hN h + 3 by omega)]; exact hk1
  change wr X 6 78 23 _ _ (nlk (sR (nlk h) fE_kept e (some (hN h))))
  first | refine r_putR (o := some _) C f_X2_18 dX2_init_23 rfl (by assumption) ?_ | refine r_putR (o := none) C f_X2_18 dX2_init_23 rfl (by assumption) ?_ | refine r_putR C f_X2_18 dX2_init_23 rfl (by assumption) ?_
  exact r_vret C E dX2_init_26 rfl (by first | exact Nat.le_refl _ | exact Nat.le_of_ble_eq_true rfl | omega) (by first | exact Nat.le_refl _ | exact Nat.le_of_ble_eq_true rfl | omega)
/-- an element begun anew: all but its parent is as for one that stands alone; kp its kept look -/
def bgE (h : Hp) (e kp : Nat) (x0 x1 x2 : Int32) : Hp :=
  sI (sR (sR (sR (sR (sR (sI (sI (sI (sI (sI h fE_number e x0) fE_tag e x1) fE_classes e x2) fE_words e 0) fE_isContainer e 0) fE_parent e none) fE_ahead e none) fE_next e none) fE_first e none) fE_last e none) fL_isKnown kp 0
theorem c_begin (l : Launch) (G : Gl) {h : Hp} {e kp : Nat} {x0 x1 x2 : Int32} (hk : hK h e = 3) (h1 : hR h fE_kept e = some kp) (h2 : hK h kp = 4) : MRw l G yX2_begin (.code yX2_begin cX2_begin 4 none) 0 0 0 [.ref e, .int x0, .int x1, .int x2] h (.inl (none, bgE h e kp x0 x1 x2)) := by
  refine mr_of (by decide +kernel) (Nat.le_of_ble_eq_true rfl) (ct4 (by first | rfl | exact isR_cat (isR_rf _)) (by first | rfl | exact isR_cat (isR_rf _)) (by first | rfl | exact isR_cat (isR_rf _)) (by first | rfl | exact isR_cat (isR_rf _))) (fun X hG hl C E => ?_)
  subst hG hl
  refine r_aload_n (i := 0) C dX2_begin_0 rfl rfl (by first | rfl | exact isR_rf _) ?_
  refine r_iload_n (i := 1) C dX2_begin_1 rfl rfl ?_
  refine r_putI C f_X2_21 dX2_begin_2 rfl rfl rfl (by assumption) ?_
  refine r_aload_n (i := 0) C dX2_begin_5 rfl rfl (by first | rfl | exact isR_rf _) ?_
  refine r_iload_n (i := 2) C dX2_begin_6 rfl rfl ?_
  refine r_putI C f_X2_25 dX2_begin_7 rfl rfl rfl (by assumption) ?_
  refine r_aload_n (i := 0) C dX2_begin_10 rfl rfl (by first | rfl | exact isR_rf _) ?_
  refine r_iload_n (i := 3) C dX2_begin_11 rfl rfl ?_
  refine r_putI C f_X2_28 dX2_begin_12 rfl rfl rfl (by assumption) ?_
  refine r_aload_n (i := 0) C dX2_begin_15 rfl rfl (by first | rfl | exact isR_rf _) ?_
  refine r_iconst (v := 0) C dX2_begin_16 (by decide) ?_
  refine r_putI C f_X2_31 dX2_begin_17 rfl rfl rfl (by assumption) ?_
  refine r_aload_n (i := 0) C dX2_begin_20 rfl rfl (by first | rfl | exact isR_rf _) ?_
  refine r_iconst (v := 0) C dX2_begin_21 (by decide) ?_
  refine r_putI C f_X2_34 dX2_begin_22 rfl (bo_nar (by first | exact Or.inl rfl | exact Or.inr rfl | assumption)).1 (bo_nar (by first | exact Or.inl rfl | exact Or.inr rfl | assumption)).2 (by assumption) ?_
  refine r_aload_n (i := 0) C dX2_begin_25 rfl rfl (by first | rfl | exact isR_rf _) ?_
  refine r_null C dX2_begin_26 ?_
  first | refine r_putR (o := some _) C f_X2_38 dX2_begin_27 rfl (by assumption) ?_ | refine r_putR (o := none) C f_X2_38 dX2_begin_27 rfl (by assumption) ?_ | refine r_putR C f_X2_38 dX2_begin_27 rfl (by assumption) ?_
  refine r_aload_n (i := 0) C dX2_begin_30 rfl rfl (by first | rfl | exact isR_rf _) ?_
  refine r_null C dX2_begin_31 ?_
  first | refine r_putR (o := some _) C f_X2_42 dX2_begin_32 rfl (by assumption) ?_ | refine r_putR (o := none) C f_X2_42 dX2_begin_32 rfl (by assumption) ?_ | refine r_putR C f_X2_42 dX2_begin_32 rfl (by assumption) ?_
  refine r_aload_n (i := 0) C dX2_begin_35 rfl rfl (by first | rfl | exact isR_rf _) ?_
  refine r_null C dX2_begin_36 ?_
  first | refine r_putR (o := some _) C f_X2_45 dX2_begin_37 rfl (by assumption) ?_ | refine r_putR (o := none) C f_X2_45 dX2_begin_37 rfl (by assumption) ?_ | refine r_putR C f_X2_45 dX2_begin_37 rfl (by assumption) ?_
  refine r_aload_n (i := 0) C dX2_begin_40 rfl rfl (by first | rfl | exact isR_rf _) ?_
  refine r_null C dX2_begin_41 ?_
  first | refine r_putR (o := some _) C f_X2_48 dX2_begin_42 rfl (by assumption) ?_ | refine r_putR (o := none) C f_X2_48 dX2_begin_42 rfl (by assumption) ?_ | refine r_putR C f_X2_48 dX2_begin_42 rfl (by assumption) ?_
  refine r_aload_n (i := 0) C dX2_begin_45 rfl rfl (by first | rfl | exact isR_rf _) ?_
  refine r_null C dX2_begin_46 ?_
  first | refine r_putR (o := some _) C f_X2_51 dX2_begin_47 rfl (by assumption) ?_ | refine r_putR (o := none) C f_X2_51 dX2_begin_47 rfl (by assumption) ?_ | refine r_putR C f_X2_51 dX2_begin_47 rfl (by assumption) ?_
  refine r_aload_n (i := 0) C dX2_begin_50 rfl rfl (by first | rfl | exact isR_rf _) ?_
  refine r_getR C f_X2_12 dX2_begin_51 rfl (by assumption) ?_
  change wr X 0 0 54 _ [va_rf (hR h fE_kept e)] _
  rw [h1]
  refine r_iconst (v := 0) C dX2_begin_54 (by decide) ?_
  refine r_putI C f_X2_54 dX2_begin_55 rfl (bo_nar (by first | exact Or.inl rfl | exact Or.inr rfl | assumption)).1 (bo_nar (by first | exact Or.inl rfl | exact Or.inr rfl | assumption)).2 (by assumption) ?_
  exact r_vret C E dX2_begin_58 rfl (by first | exact Nat.le_refl _ | exact Nat.le_of_ble_eq_true rfl | omega) (by first | exact Nat.le_refl _ | exact Nat.le_of_ble_eq_true rfl | omega)
/-- the fresh look of an element; the rows of a look -/
def frs (h : Hp) (e : Nat) : Nat := (hR h fE_fresh e).getD 0
def kpt (h : Hp) (e : Nat) : Nat := (hR h fE_kept e).getD 0
def vls (h : Hp) (k : Nat) : Nat := (hR h fL_values k).getD 0
def scs (h : Hp) (k : Nat) : Nat := (hR h fL_sources k).getD 0
/-- a value and a source of a look -/
def lv (h : Hp) (k p : Nat) : Int32 := hA h (vls h k) p
def ls (h : Hp) (k p : Nat) : Int32 := hA h (scs h k) p
def LW (h : Hp) (k : Nat) : Prop := LO h k (vls h k) (scs h k)
def EW (h : Hp) (e : Nat) : Prop := hK h e = 3 ∧ hR h fE_fresh e = some (frs h e) ∧ LW h (frs h e) ∧ hR h fE_kept e = some (kpt h e) ∧ LW h (kpt h e)
/-- a chain of elements by the field f -/
def LN (f : Nat) (h : Hp) : Option Nat → List Nat → Prop
  | o, [] => o = none
  | o, a :: xs => o = some a ∧ hK h a = 3 ∧ 6 ≤ a ∧ LN f h (hR h f a) xs
theorem c_isWithin (l : Launch) (G : Gl) {h : Hp} {e t : Nat} {xs : List Nat} (hc : LN fE_parent h (some e) xs) (ht : 6 ≤ t) : MRw l G yX2_isWithin (.code yX2_isWithin cX2_isWithin 3 (Option.some Jvm.ClassFile.FieldType.boolean)) 0 0 0 [.ref e, .ref t] h (.inl (some (.int (if t ∈ xs then 1 else 0)), h)) := by
  refine mr_of (by decide +kernel) (Nat.le_of_ble_eq_true rfl) (ct2 (by first | rfl | exact isR_cat (isR_rf _)) (by first | rfl | exact isR_cat (isR_rf _))) (fun X hG hl C E => ?_)
  subst hG hl
  have hloop : ∀ (ys : List Nat) (o : Option Nat), LN fE_parent h o ys → (t ∈ xs ↔ t ∈ ys) → wr X 0 0 2 [.ref e, .ref t, va_rf o] [] h := by
    intro ys
    induction ys with
    | nil =>
      intro o ho hiff
      have ho' : o = none := ho
      subst ho'
      rw [if_neg (fun z => by have := hiff.mp z; cases this)] at E
      refine r_aload_n (i := 2) C dX2_isWithin_2 rfl rfl (by first | rfl | exact isR_rf _) ?_
      refine r_ifnull (o := none) (tgt := 21) C dX2_isWithin_3 (by decide) (fun _ => ?_) (fun a c => nomatch c)
      refine r_iconst (v := 0) C dX2_isWithin_21 (by decide) ?_
      exact r_iret C E dX2_isWithin_22 rfl (bo_nar (by first | exact Or.inl rfl | exact Or.inr rfl | assumption)).1 (by first | exact Nat.le_refl _ | exact Nat.le_of_ble_eq_true rfl | omega) (by first | exact Nat.le_refl _ | exact Nat.le_of_ble_eq_true rfl | omega)
    | cons a ys ih =>
      intro o ho hiff
      obtain ⟨rfl, hka, ha6, hn⟩ := ho
      refine r_aload_n (i := 2) C dX2_isWithin_2 rfl rfl (by first | rfl | exact isR_rf _) ?_
      refine r_ifnull (o := some a) (tgt := 21) C dX2_isWithin_3 (by decide) (fun c => nomatch c) (fun _ _ => ?_)
      refine r_aload_n (i := 2) C dX2_isWithin_6 rfl rfl (by first | rfl | exact isR_rf _) ?_
      refine r_aload_n (i := 1) C dX2_isWithin_7 rfl rfl (by first | rfl | exact isR_rf _) ?_
      refine r_ac_ne (o1 := some a) (o2 := some t) (tgt := 13) C dX2_isWithin_8 (by decide) ?_ (fun c => ?_) (fun c => ?_)
      · intro a' b' q1 q2; cases q1; cases q2; exact Or.inr (Or.inl ⟨ha6, by omega⟩)
      · refine r_aload_n (i := 2) C dX2_isWithin_13 rfl rfl (by first | rfl | exact isR_rf _) ?_
        refine r_getR C f_X2_38 dX2_isWithin_14 rfl (by assumption) ?_
        refine r_astore_n (i := 2) C dX2_isWithin_17 rfl (Nat.le_of_ble_eq_true rfl) (by first | rfl | exact isR_rf _) ?_
        refine r_goto (tgt := 2) C dX2_isWithin_18 (by decide) ?_
        exact ih _ hn (hiff.trans ⟨fun z => by
          rcases List.mem_cons.mp z with z | z
          · exact absurd (congrArg some z.symm) c
          · exact z, fun z => List.mem_cons_of_mem _ z⟩)
      · rw [if_pos (hiff.mpr (by rw [Option.some.inj c]; exact List.mem_cons_self))] at E
        refine r_iconst (v := 1) C dX2_isWithin_11 (by decide) ?_
        exact r_iret C E dX2_isWithin_12 rfl (bo_nar (by first | exact Or.inl rfl | exact Or.inr rfl | assumption)).1 (by first | exact Nat.le_refl _ | exact Nat.le_of_ble_eq_true rfl | omega) (by first | exact Nat.le_refl _ | exact Nat.le_of_ble_eq_true rfl | omega)
  refine r_aload_n (i := 0) C dX2_isWithin_0 rfl rfl (by first | rfl | exact isR_rf _) ?_
  refine r_astore_n (i := 2) C dX2_isWithin_1 rfl (Nat.le_of_ble_eq_true rfl) (by first | rfl | exact isR_rf _) ?_
  exact hloop xs (some e) hc Iff.rfl
/-- the width of the nearest container of a chain -/
def wAr (h : Hp) : List Nat → Int32
  | [] => -1
  | a :: xs => if hI h fE_isContainer a = 0 then wAr h xs else hI h fL_width (frs h a)
theorem c_widthAround (l : Launch) (G : Gl) {h : Hp} {e : Nat} {xs : List Nat} (hk : hK h e = 3) (hc : LN fE_parent h (hR h fE_parent e) xs) (hw : ∀ a, a ∈ xs → EW h a) : MRw l G yX2_widthAround (.code yX2_widthAround cX2_widthAround 2 (Option.some Jvm.ClassFile.FieldType.int)) 0 0 0 [.ref e] h (.inl (some (.int (wAr h xs)), h)) := by
  refine mr_of (by decide +kernel) (Nat.le_of_ble_eq_true rfl) (ct1 (by first | rfl | exact isR_cat (isR_rf _))) (fun X hG hl C E => ?_)
  subst hG hl
  have hloop : ∀ (ys : List Nat) (o : Option Nat), LN fE_parent h o ys → (∀ a, a ∈ ys → EW h a) → wAr h xs = wAr h ys → wr X 0 0 5 [.ref e, va_rf o] [] h := by
    intro ys
    induction ys with
    | nil =>
      intro o ho hw heq
      have ho' : o = none := ho
      subst ho'
      rw [heq] at E
      refine r_aload_n (i := 1) C dX2_widthAround_5 rfl rfl (by first | rfl | exact isR_rf _) ?_
      refine r_ifnull (o := none) (tgt := 32) C dX2_widthAround_6 (by decide) (fun _ => ?_) (fun a c => nomatch c)
      refine r_iconst (v := (-1)) C dX2_widthAround_32 (by decide) ?_
      exact r_iret C E dX2_widthAround_33 rfl rfl (by first | exact Nat.le_refl _ | exact Nat.le_of_ble_eq_true rfl | omega) (by first | exact Nat.le_refl _ | exact Nat.le_of_ble_eq_true rfl | omega)
    | cons a ys ih =>
      intro o ho hw heq
      obtain ⟨rfl, hka, ha6, hn⟩ := ho
      refine r_aload_n (i := 1) C dX2_widthAround_5 rfl rfl (by first | rfl | exact isR_rf _) ?_
      refine r_ifnull (o := some a) (tgt := 32) C dX2_widthAround_6 (by decide) (fun c => nomatch c) (fun _ _ => ?_)
      refine r_aload_n (i := 1) C dX2_widthAround_9 rfl rfl (by first | rfl | exact isR_rf _) ?_
      refine r_getI C f_X2_34 dX2_widthAround_10 rfl (by assumption) ?_
      refine r_if_eq (tgt := 24) C dX2_widthAround_13 (by decide) (fun c_13 => ?_) (fun c_13 => ?_)
      · refine r_aload_n (i := 1) C dX2_widthAround_24 rfl rfl (by first | rfl | exact isR_rf _) ?_
        refine r_getR C f_X2_38 dX2_widthAround_25 rfl (by assumption) ?_
        refine r_astore_n (i := 1) C dX2_widthAround_28 rfl (Nat.le_of_ble_eq_true rfl) (by first | rfl | exact isR_rf _) ?_
        refine r_goto (tgt := 5) C dX2_widthAround_29 (by decide) ?_
        exact ih _ hn (fun b hb => hw b (List.mem_cons_of_mem _ hb)) (heq.trans (if_pos c_13))
      · obtain ⟨-, hf, hl⟩ := hw a List.mem_cons_self
        have hkf := hl.1.1
        rw [heq, show wAr h (a :: ys) = hI h fL_width (frs h a) from if_neg c_13] at E
        refine r_aload_n (i := 1) C dX2_widthAround_16 rfl rfl (by first | rfl | exact isR_rf _) ?_
        refine r_getR C f_X2_18 dX2_widthAround_17 rfl (by assumption) ?_
        rw [hf]
        refine r_getI C f_X2_61 dX2_widthAround_20 rfl (by assumption) ?_
        exact r_iret C E dX2_widthAround_23 rfl rfl (by first | exact Nat.le_refl _ | exact Nat.le_of_ble_eq_true rfl | omega) (by first | exact Nat.le_refl _ | exact Nat.le_of_ble_eq_true rfl | omega)
  refine r_aload_n (i := 0) C dX2_widthAround_0 rfl rfl (by first | rfl | exact isR_rf _) ?_
  refine r_getR C f_X2_38 dX2_widthAround_1 rfl (by assumption) ?_
  refine r_astore_n (i := 1) C dX2_widthAround_4 rfl (Nat.le_of_ble_eq_true rfl) (by first | rfl | exact isR_rf _) ?_
  exact hloop xs _ hc hw rfl
/-- the looks of an element changed places, and the kept one is known -/
def tkF (h : Hp) (e a b : Nat) : Hp := sI (sR (sR h fE_kept e (some b)) fE_fresh e (some a)) fL_isKnown b 1
theorem c_takeFresh (l : Launch) (G : Gl) {h : Hp} {e a b va sa vb sb : Nat} (hk : hK h e = 3) (h1 : hR h fE_kept e = some a) (h2 : hR h fE_fresh e = some b) (ha : LO h a va sa) (hb : LO h b vb sb) (hab : a ≠ b) :
    ∃ r : Int32, MRw l G yX2_takeFresh (.code yX2_takeFresh cX2_takeFresh 2 (Option.some Jvm.ClassFile.FieldType.boolean)) 2 0 0 [.ref e] h (.inl (some (.int r), tkF h e a b)) ∧ (r = 1 ↔ ¬ (hI h fL_isKnown a ≠ 0 ∧ lsm h a va b vb)) ∧ (r = 0 ∨ r = 1) := by
  have hka := ha.1
  have hkb := hb.1
  have hia : hI (tkF h e a b) fL_isKnown a = hI h fL_isKnown a := by
    show hI (sI _ fL_isKnown b 1) fL_isKnown a = _
    rw [iI_nb hab]; rfl
  obtain ⟨v, M, hv1, hv2⟩ := c_isSame l G (h := tkF h e a b) (k := a) (v := va) (s := sa) (k' := b) (v' := vb) (s' := sb) ha hb
  have hv1' : v = 1 ↔ lsm h a va b vb := hv1
  have hkf : hR (tkF h e a b) fE_kept e = some b := by
    show hR (sR (sR h fE_kept e (some b)) fE_fresh e (some a)) fE_kept e = some b
    rw [rR_ne (by decide), rR_at]
  by_cases hkn : hI h fL_isKnown a = 0
  · refine ⟨1, ?_, ⟨fun _ z => z.1 hkn, fun _ => rfl⟩, Or.inr rfl⟩
    refine mr_of (by decide +kernel) (Nat.le_of_ble_eq_true rfl) (ct1 (by first | rfl | exact isR_cat (isR_rf _))) (fun X hG hl C E => ?_)
    subst hG hl
    refine r_aload_n (i := 0) C dX2_takeFresh_0 rfl rfl (by first | rfl | exact isR_rf _) ?_
    refine r_getR C f_X2_12 dX2_takeFresh_1 rfl (by assumption) ?_
    rw [h1]
    refine r_astore_n (i := 1) C dX2_takeFresh_4 rfl (Nat.le_of_ble_eq_true rfl) (by first | rfl | exact isR_rf _) ?_
    refine r_aload_n (i := 0) C dX2_takeFresh_5 rfl rfl (by first | rfl | exact isR_rf _) ?_
    refine r_aload_n (i := 0) C dX2_takeFresh_6 rfl rfl (by first | rfl | exact isR_rf _) ?_
    refine r_getR C f_X2_18 dX2_takeFresh_7 rfl (by assumption) ?_
    rw [h2]
    first | refine r_putR (o := some _) C f_X2_12 dX2_takeFresh_10 rfl (by assumption) ?_ | refine r_putR (o := none) C f_X2_12 dX2_takeFresh_10 rfl (by assumption) ?_ | refine r_putR C f_X2_12 dX2_takeFresh_10 rfl (by assumption) ?_
    refine r_aload_n (i := 0) C dX2_takeFresh_13 rfl rfl (by first | rfl | exact isR_rf _) ?_
    refine r_aload_n (i := 1) C dX2_takeFresh_14 rfl rfl (by first | rfl | exact isR_rf _) ?_
    first | refine r_putR (o := some _) C f_X2_18 dX2_takeFresh_15 rfl (by assumption) ?_ | refine r_putR (o := none) C f_X2_18 dX2_takeFresh_15 rfl (by assumption) ?_ | refine r_putR C f_X2_18 dX2_takeFresh_15 rfl (by assumption) ?_
    refine r_aload_n (i := 0) C dX2_takeFresh_18 rfl rfl (by first | rfl | exact isR_rf _) ?_
    refine r_getR C f_X2_12 dX2_takeFresh_19 rfl (by assumption) ?_
    change wr X 0 0 22 _ [va_rf (hR (tkF h e a b) fE_kept e)] (sR (sR h fE_kept e (some b)) fE_fresh e (some a))
    rw [hkf]
    refine r_iconst (v := 1) C dX2_takeFresh_22 (by decide) ?_
    refine r_putI C f_X2_54 dX2_takeFresh_23 rfl (bo_nar (by first | exact Or.inl rfl | exact Or.inr rfl | assumption)).1 (bo_nar (by first | exact Or.inl rfl | exact Or.inr rfl | assumption)).2 (by assumption) ?_
    change wr X 0 0 26 _ _ (tkF h e a b)
    refine r_aload_n (i := 1) C dX2_takeFresh_26 rfl rfl (by first | rfl | exact isR_rf _) ?_
    refine r_getI C f_X2_54 dX2_takeFresh_27 rfl (by assumption) ?_
    rw [hia]
    refine r_if_eq (tgt := 44) C dX2_takeFresh_30 (by decide) (fun c_30 => ?_) (fun c_30 => ?_)
    · refine r_iconst (v := 1) C dX2_takeFresh_44 (by decide) ?_
      refine r_goto (tgt := 49) C dX2_takeFresh_45 (by decide) ?_
      exact r_iret C E dX2_takeFresh_49 rfl (bo_nar (by first | exact Or.inl rfl | exact Or.inr rfl | assumption)).1 (by first | exact Nat.le_refl _ | exact Nat.le_of_ble_eq_true rfl | omega) (by first | exact Nat.le_refl _ | exact Nat.le_of_ble_eq_true rfl | omega)
    · exact absurd hkn c_30
  · refine ⟨if v = 1 then 0 else 1, ?_, ?_, ?_⟩
    · refine mr_of (by decide +kernel) (Nat.le_of_ble_eq_true rfl) (ct1 (by first | rfl | exact isR_cat (isR_rf _))) (fun X hG hl C E => ?_)
      subst hG hl
      refine r_aload_n (i := 0) C dX2_takeFresh_0 rfl rfl (by first | rfl | exact isR_rf _) ?_
      refine r_getR C f_X2_12 dX2_takeFresh_1 rfl (by assumption) ?_
      rw [h1]
      refine r_astore_n (i := 1) C dX2_takeFresh_4 rfl (Nat.le_of_ble_eq_true rfl) (by first | rfl | exact isR_rf _) ?_
      refine r_aload_n (i := 0) C dX2_takeFresh_5 rfl rfl (by first | rfl | exact isR_rf _) ?_
      refine r_aload_n (i := 0) C dX2_takeFresh_6 rfl rfl (by first | rfl | exact isR_rf _) ?_
      refine r_getR C f_X2_18 dX2_takeFresh_7 rfl (by assumption) ?_
      rw [h2]
      first | refine r_putR (o := some _) C f_X2_12 dX2_takeFresh_10 rfl (by assumption) ?_ | refine r_putR (o := none) C f_X2_12 dX2_takeFresh_10 rfl (by assumption) ?_ | refine r_putR C f_X2_12 dX2_takeFresh_10 rfl (by assumption) ?_
      refine r_aload_n (i := 0) C dX2_takeFresh_13 rfl rfl (by first | rfl | exact isR_rf _) ?_
      refine r_aload_n (i := 1) C dX2_takeFresh_14 rfl rfl (by first | rfl | exact isR_rf _) ?_
      first | refine r_putR (o := some _) C f_X2_18 dX2_takeFresh_15 rfl (by assumption) ?_ | refine r_putR (o := none) C f_X2_18 dX2_takeFresh_15 rfl (by assumption) ?_ | refine r_putR C f_X2_18 dX2_takeFresh_15 rfl (by assumption) ?_
      refine r_aload_n (i := 0) C dX2_takeFresh_18 rfl rfl (by first | rfl | exact isR_rf _) ?_
      refine r_getR C f_X2_12 dX2_takeFresh_19 rfl (by assumption) ?_
      change wr X 0 0 22 _ [va_rf (hR (tkF h e a b) fE_kept e)] (sR (sR h fE_kept e (some b)) fE_fresh e (some a))
      rw [hkf]
      refine r_iconst (v := 1) C dX2_takeFresh_22 (by decide) ?_
      refine r_putI C f_X2_54 dX2_takeFresh_23 rfl (bo_nar (by first | exact Or.inl rfl | exact Or.inr rfl | assumption)).1 (bo_nar (by first | exact Or.inl rfl | exact Or.inr rfl | assumption)).2 (by assumption) ?_
      change wr X 0 0 26 _ _ (tkF h e a b)
      refine r_aload_n (i := 1) C dX2_takeFresh_26 rfl rfl (by first | rfl | exact isR_rf _) ?_
      refine r_getI C f_X2_54 dX2_takeFresh_27 rfl (by assumption) ?_
      rw [hia]
      refine r_if_eq (tgt := 44) C dX2_takeFresh_30 (by decide) (fun c_30 => ?_) (fun c_30 => ?_)
      · exact absurd c_30 hkn
      · refine r_aload_n (i := 1) C dX2_takeFresh_33 rfl rfl (by first | rfl | exact isR_rf _) ?_
        refine r_aload_n (i := 0) C dX2_takeFresh_34 rfl rfl (by first | rfl | exact isR_rf _) ?_
        refine r_getR C f_X2_12 dX2_takeFresh_35 rfl (by assumption) ?_
        rw [hkf]
        refine r_callVs C v_X2_57 M dX2_takeFresh_38 (by assumption) (ci := 4) (by decide) rfl rfl (As := [_]) rfl rfl rfl (by first | exact Nat.le_refl _ | exact Nat.le_of_ble_eq_true rfl | omega) (Nat.le_of_ble_eq_true rfl) (by first | exact Nat.le_refl _ | exact Nat.le_of_ble_eq_true rfl | omega) (by first | exact Nat.le_refl _ | exact Nat.le_of_ble_eq_true rfl | omega) ?_
        refine r_if_ne (tgt := 48) C dX2_takeFresh_41 (by decide) (fun c_41 => ?_) (fun c_41 => ?_)
        · have e1 : v = 1 := hv2.resolve_left c_41
          rw [if_pos e1] at E
          refine r_iconst (v := 0) C dX2_takeFresh_48 (by decide) ?_
          exact r_iret C E dX2_takeFresh_49 rfl (bo_nar (by first | exact Or.inl rfl | exact Or.inr rfl | assumption)).1 (by first | exact Nat.le_refl _ | exact Nat.le_of_ble_eq_true rfl | omega) (by first | exact Nat.le_refl _ | exact Nat.le_of_ble_eq_true rfl | omega)
        · have e1 : ¬ v = 1 := fun z => by rw [z] at c_41; exact absurd c_41 (by decide)
          rw [if_neg e1] at E
          refine r_iconst (v := 1) C dX2_takeFresh_44 (by decide) ?_
          refine r_goto (tgt := 49) C dX2_takeFresh_45 (by decide) ?_
          exact r_iret C E dX2_takeFresh_49 rfl (bo_nar (by first | exact Or.inl rfl | exact Or.inr rfl | assumption)).1 (by first | exact Nat.le_refl _ | exact Nat.le_of_ble_eq_true rfl | omega) (by first | exact Nat.le_refl _ | exact Nat.le_of_ble_eq_true rfl | omega)
    · by_cases hvv : v = 1
      · rw [if_pos hvv]
        exact ⟨fun z => absurd z (by decide), fun z => absurd ⟨hkn, hv1'.mp hvv⟩ z⟩
      · rw [if_neg hvv]
        exact ⟨fun _ z => hvv (hv1'.mpr z.2), fun _ => rfl⟩
    · by_cases hvv : v = 1
      · exact Or.inl (if_pos hvv)
      · exact Or.inr (if_neg hvv)
