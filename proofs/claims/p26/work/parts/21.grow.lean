/-! ===== lists: growing and adding ===== -/
theorem iI_ne {h : Hp} {f g a : Nat} {v : Int32} (q : g ≠ f) : hI (sI h f a v) g = hI h g := va_up_ne _ _ q
theorem iI_eq {h : Hp} {f a : Nat} {v : Int32} : hI (sI h f a v) f = va_up (hI h f) a v := va_up_self _ _ _
theorem iI_at {h : Hp} {f a : Nat} {v : Int32} : hI (sI h f a v) f a = v := by rw [iI_eq, va_up_self]
theorem iI_nb {h : Hp} {f g a b : Nat} {v : Int32} (q : b ≠ a) : hI (sI h f a v) g b = hI h g b := by
  by_cases e : g = f
  · subst e
    rw [iI_eq, va_up_ne _ _ q]
  · rw [iI_ne e]
theorem rR_ne {h : Hp} {f g a : Nat} {v : Option Nat} (q : g ≠ f) : hR (sR h f a v) g = hR h g := va_up_ne _ _ q
theorem rR_eq {h : Hp} {f a : Nat} {v : Option Nat} : hR (sR h f a v) f = va_up (hR h f) a v := va_up_self _ _ _
theorem rR_at {h : Hp} {f a : Nat} {v : Option Nat} : hR (sR h f a v) f a = v := by rw [rR_eq, va_up_self]
theorem rR_nb {h : Hp} {f g a b : Nat} {v : Option Nat} (q : b ≠ a) : hR (sR h f a v) g b = hR h g b := by
  by_cases e : g = f
  · subst e
    rw [rR_eq, va_up_ne _ _ q]
  · rw [rR_ne e]
theorem qQ_ne {h : Hp} {a b j : Nat} {v : Option Nat} (q : b ≠ a) : hQ (sQ h a j v) b = hQ h b := va_up_ne _ _ q
theorem qQ_eq {h : Hp} {a j : Nat} {v : Option Nat} : hQ (sQ h a j v) a = va_up (hQ h a) j v := va_up_self _ _ _
theorem qF_ne {h : Hp} {a b : Nat} {g : Nat → Option Nat} (q : b ≠ a) : hQ (sQf h a g) b = hQ h b := va_up_ne _ _ q
theorem qF_eq {h : Hp} {a : Nat} {g : Nat → Option Nat} : hQ (sQf h a g) a = g := va_up_self _ _ _
theorem aA_ne {h : Hp} {a b j : Nat} {v : Int32} (q : b ≠ a) : hA (sA h a j v) b = hA h b := va_up_ne _ _ q
theorem aA_eq {h : Hp} {a j : Nat} {v : Int32} : hA (sA h a j v) a = va_up (hA h a) j v := va_up_self _ _ _
/-- a class whose objects lie in lists -/
def LK (ci : Nat) : Prop := ci < 100 ∧ ∃ r : vw_C, mCl[ci]? = some r ∧ (r.1, "java/lang/Object") ∈ castL
theorem LK3 : LK 3 := ⟨by decide, _, rfl, by decide +kernel⟩
theorem LK5 : LK 5 := ⟨by decide, _, rfl, by decide +kernel⟩
theorem LK6 : LK 6 := ⟨by decide, _, rfl, by decide +kernel⟩
/-- what grow leaves: a new row at hN h with the old elements, room for one more -/
def GP (h h' : Hp) (l : Nat) (xs : List Nat) : Prop :=
  hI h' = hI h ∧ hA h' = hA h ∧ hW h' = hW h ∧ hN h' = hN h + 1 ∧ hK h' = va_up (hK h) (hN h) 103 ∧ (∃ n, n ≤ 60 ∧ (xs.length < n ∧ (hR h fA_elementData l = some 4 → 10 ≤ n) ∧ xs.length + xs.length / 2 ≤ n) ∧ hL h' = va_up (hL h) (hN h) n) ∧
  hR h' = va_up (hR h) fA_elementData (va_up (hR h fA_elementData) l (some (hN h))) ∧ (∀ b, b ≠ hN h → hQ h' b = hQ h b) ∧ (∀ (i x : Nat), xs[i]? = some x → hQ h' (hN h) i = some x) ∧ ∀ (j b : Nat), hQ h' (hN h) j = some b → b < hN h
theorem shr1 {n : Nat} (h : n < 2 ^ 31) : nI n >>> ((1 : Int32) &&& 31) = nI (n / 2) := by
  have k := pk_shrN h ((1 : Int32) &&& 31) 1 (by decide)
  rw [Nat.pow_one] at k
  exact k
theorem c_grow1 (l : Launch) (G : Gl) {h : Hp} {a d ci : Nat} {xs : List Nat} (hg0 : Good h) (hAL : AL h a d xs) (hx : xs.length ≤ 39) (hfull : d ≠ 4 → hL h d = xs.length) (hci : LK ci) (hek : ∀ x ∈ xs, hK h x = ci) :
    ∃ h' : Hp, MRw l G yJx4a65c_grow_92f84 (.code yJx4a65c_grow_92f84 cJx4a65c_grow_92f84 4 (Option.some (Jvm.ClassFile.FieldType.array (Jvm.ClassFile.FieldType.object "java/lang/Object")))) 3 1 60 [.ref a, .int (nI (xs.length + 1))] h (.inl (some (.ref (hN h)), h')) ∧ GP h h' a xs := by
  obtain ⟨hk, h1, h2, h3, h4⟩ := hAL
  obtain ⟨hc1, r, hc2, hc3⟩ := hci
  rcases h4 with ⟨rfl, rfl⟩ | ⟨h0, h5, h6, h7, h8⟩
  · refine ⟨sR (nw h 103 10) fA_elementData a (some (hN h)), ?_, rfl, rfl, rfl, rfl, rfl, ⟨10, by decide, ⟨by decide, fun _ => by decide, by decide⟩, rfl⟩, rfl, fun b hb => rfl, fun i x hi => (by cases hi), fun j b hj => nomatch ((hg0.2.2.1 _ (Nat.le_refl _)).2.2 j).2.1.symm.trans hj⟩
    refine mr_of (by decide +kernel) (Nat.le_of_ble_eq_true rfl) (ct2 (by first | rfl | exact isR_cat (isR_rf _)) (by first | rfl | exact isR_cat (isR_rf _))) (fun X hG hl C E => ?_)
    subst hG hl
    refine wr_good (fun hg => ?_)
    have hkn := kind_in hg hk (by decide)
    refine r_aload_n (i := 0) C dJx4a65c_grow_92f84_0 rfl rfl (by first | rfl | exact isR_rf _) ?_
    refine r_getR C f_Jx4a65c_9 dJx4a65c_grow_92f84_1 rfl (by assumption) ?_
    rw [h2]
    refine r_elen C dJx4a65c_grow_92f84_4 ?_
    refine r_istore_n (i := 2) C dJx4a65c_grow_92f84_5 rfl (Nat.le_of_ble_eq_true rfl) ?_
    refine r_iload_n (i := 2) C dJx4a65c_grow_92f84_6 rfl rfl ?_
    refine r_if_gt (tgt := 20) C dJx4a65c_grow_92f84_7 (by decide) (fun c_7 => ?_) (fun c_7 => ?_)
    · exact absurd c_7 (by decide)
    · refine r_aload_n (i := 0) C dJx4a65c_grow_92f84_10 rfl rfl (by first | rfl | exact isR_rf _) ?_
      refine r_getR C f_Jx4a65c_9 dJx4a65c_grow_92f84_11 rfl (by assumption) ?_
      rw [h2]
      refine r_gs4 C dJx4a65c_grow_92f84_14 g_Jx4a65c_39 ?_
      refine r_ac_eq (o1 := some _) (o2 := some _) (tgt := 45) C dJx4a65c_grow_92f84_17 (by decide) (fun a b ha hb => Or.inl ((Option.some.inj ha).symm.trans (Option.some.inj hb))) (fun c_17 => ?_) (fun c_17 => absurd rfl c_17)
      refine r_aload_n (i := 0) C dJx4a65c_grow_92f84_45 rfl rfl (by first | rfl | exact isR_rf _) ?_
      refine r_bipush (v := 10) C dJx4a65c_grow_92f84_46 (by decide) ?_
      refine r_iload_n (i := 1) C dJx4a65c_grow_92f84_48 rfl rfl ?_
      refine r_mmax C dJx4a65c_grow_92f84_49 (by first | exact Nat.le_refl _ | exact Nat.le_of_ble_eq_true rfl | omega) rfl (Nat.le_of_ble_eq_true rfl) l_Jx4a65c_79 w_maxS w_mathI w_maxC (by first | exact Nat.le_refl _ | exact Nat.le_of_ble_eq_true rfl | omega) (by first | exact Nat.le_refl _ | exact Nat.le_of_ble_eq_true rfl | omega) ?_
      rw [show (if (10 : Int32) < nI (([] : List Nat).length + 1) then nI (([] : List Nat).length + 1) else (10 : Int32)) = nI 10 by decide]
      refine r_newq (t := 0) C dJx4a65c_grow_92f84_52 rfl (by decide) (by decide) c_Jx4a65c_7 (by decide) (by decide) ?_
      have hk' : hK (nw h (103 + 0) 10) a = 0 := by rw [show hK (nw h (103 + 0) 10) a = hK h a from va_up_ne _ _ (by omega)]; exact hk
      refine r_dup_x1 C (by first | rfl | exact isR_cat (isR_rf _)) (by first | rfl | exact isR_cat (isR_rf _)) dJx4a65c_grow_92f84_55 ?_
      first | refine r_putR (o := some _) C f_Jx4a65c_9 dJx4a65c_grow_92f84_56 rfl (by assumption) ?_ | refine r_putR (o := none) C f_Jx4a65c_9 dJx4a65c_grow_92f84_56 rfl (by assumption) ?_ | refine r_putR C f_Jx4a65c_9 dJx4a65c_grow_92f84_56 rfl (by assumption) ?_
      refine r_aret (o := some _) C E dJx4a65c_grow_92f84_59 rfl rfl (by omega) (by omega)
  · have hfull := hfull (by omega)
    have hnl : xs.length + max 1 (xs.length / 2) ≤ 60 := by omega
    refine ⟨sR (sQf (nw h 103 (xs.length + max 1 (xs.length / 2))) (hN h) (va_cpy (hQ h d) (hQ h (hN h)) 0 0 (hL h d))) fA_elementData a (some (hN h)), ?_, rfl, rfl, rfl, rfl, rfl, ⟨_, hnl, ⟨by omega, fun z => absurd (Option.some.inj (h2.symm.trans z)) (by omega), by omega⟩, rfl⟩, rfl, fun b hb => qF_ne hb, fun i x hi => ?_, fun j b hj => ?_⟩
    · refine mr_of (by decide +kernel) (Nat.le_of_ble_eq_true rfl) (ct2 (by first | rfl | exact isR_cat (isR_rf _)) (by first | rfl | exact isR_cat (isR_rf _))) (fun X hG hl C E => ?_)
      subst hG hl
      refine wr_good (fun hg => ?_)
      have hkn := kind_in hg hk (by decide)
      refine r_aload_n (i := 0) C dJx4a65c_grow_92f84_0 rfl rfl (by first | rfl | exact isR_rf _) ?_
      refine r_getR C f_Jx4a65c_9 dJx4a65c_grow_92f84_1 rfl (by assumption) ?_
      rw [h2]
      refine r_alen C dJx4a65c_grow_92f84_4 (by assumption) (by decide) ?_
      refine r_istore_n (i := 2) C dJx4a65c_grow_92f84_5 rfl (Nat.le_of_ble_eq_true rfl) ?_
      refine r_iload_n (i := 2) C dJx4a65c_grow_92f84_6 rfl rfl ?_
      rw [hfull]
      have hgo : ∀ LS, LS = [.ref a, .int (nI (xs.length + 1)), .int (nI xs.length), .long 0] → wr X 0 0 20 LS [] h := by
        intro LS hLS
        subst hLS
        refine r_iload_n (i := 2) C dJx4a65c_grow_92f84_20 rfl rfl ?_
        refine r_iload_n (i := 1) C dJx4a65c_grow_92f84_21 rfl rfl ?_
        refine r_iload_n (i := 2) C dJx4a65c_grow_92f84_22 rfl rfl ?_
        refine r_isub C dJx4a65c_grow_92f84_23 ?_
        refine r_iload_n (i := 2) C dJx4a65c_grow_92f84_24 rfl rfl ?_
        refine r_iconst (v := 1) C dJx4a65c_grow_92f84_25 (by decide) ?_
        refine r_ishr C dJx4a65c_grow_92f84_26 ?_
        rw [shr1 (by omega), pk_sub (by omega), Nat.add_sub_cancel_left]
        refine r_callSs C s_Jx4a65c_73 (c_newLength _ _ (by omega) (by omega)) dJx4a65c_grow_92f84_27 (As := [_, _, _]) rfl rfl rfl (by first | exact Nat.le_refl _ | exact Nat.le_of_ble_eq_true rfl | omega) (Nat.le_of_ble_eq_true rfl) (by first | exact Nat.le_refl _ | exact Nat.le_of_ble_eq_true rfl | omega) (by first | exact Nat.le_refl _ | exact Nat.le_of_ble_eq_true rfl | omega) ?_
        refine r_istore_n (i := 3) C dJx4a65c_grow_92f84_30 rfl (Nat.le_of_ble_eq_true rfl) ?_
        refine r_aload_n (i := 0) C dJx4a65c_grow_92f84_31 rfl rfl (by first | rfl | exact isR_rf _) ?_
        refine r_aload_n (i := 0) C dJx4a65c_grow_92f84_32 rfl rfl (by first | rfl | exact isR_rf _) ?_
        refine r_getR C f_Jx4a65c_9 dJx4a65c_grow_92f84_33 rfl (by assumption) ?_
        rw [h2]
        refine r_iload_n (i := 3) C dJx4a65c_grow_92f84_36 rfl rfl ?_
        refine r_callSs C s_Jx4a65c_66 (c_copyOf _ _ h5 (by omega) (by omega) hc1 hc2 hc3 (fun i hi z hz => hek z (by have := h8 i _ (List.getElem?_eq_getElem (by omega : i < xs.length)); rw [hz] at this; cases this; exact List.getElem_mem _)) rfl) dJx4a65c_grow_92f84_37 (As := [_, _]) rfl rfl rfl (by first | exact Nat.le_refl _ | exact Nat.le_of_ble_eq_true rfl | omega) (Nat.le_of_ble_eq_true rfl) (by first | exact Nat.le_refl _ | exact Nat.le_of_ble_eq_true rfl | omega) (by first | exact Nat.le_refl _ | exact Nat.le_of_ble_eq_true rfl | omega) ?_
        have hk' : hK (sQf (nw h 103 (xs.length + max 1 (xs.length / 2))) (hN h) (va_cpy (hQ h d) (hQ h (hN h)) 0 0 (hL h d))) a = 0 := by
          show va_up (hK h) (hN h) 103 a = 0
          rw [va_up_ne _ _ (by omega)]
          exact hk
        refine r_dup_x1 C (by first | rfl | exact isR_cat (isR_rf _)) (by first | rfl | exact isR_cat (isR_rf _)) dJx4a65c_grow_92f84_40 ?_
        first | refine r_putR (o := some _) C f_Jx4a65c_9 dJx4a65c_grow_92f84_41 rfl (by assumption) ?_ | refine r_putR (o := none) C f_Jx4a65c_9 dJx4a65c_grow_92f84_41 rfl (by assumption) ?_ | refine r_putR C f_Jx4a65c_9 dJx4a65c_grow_92f84_41 rfl (by assumption) ?_
        refine r_aret (o := some _) C E dJx4a65c_grow_92f84_44 rfl rfl (by omega) (by omega)
      refine r_if_gt (tgt := 20) C dJx4a65c_grow_92f84_7 (by decide) (fun c_7 => ?_) (fun c_7 => ?_)
      · exact hgo _ rfl
      · refine r_aload_n (i := 0) C dJx4a65c_grow_92f84_10 rfl rfl (by first | rfl | exact isR_rf _) ?_
        refine r_getR C f_Jx4a65c_9 dJx4a65c_grow_92f84_11 rfl (by assumption) ?_
        rw [h2]
        refine r_gs4 C dJx4a65c_grow_92f84_14 g_Jx4a65c_39 ?_
        refine r_ac_eq (o1 := some _) (o2 := some _) (tgt := 45) C dJx4a65c_grow_92f84_17 (by decide) (fun a b ha hb => Or.inr (Or.inl ⟨by cases ha; exact h0, by cases hb; decide⟩)) (fun c_17 => absurd (Option.some.inj c_17) (by omega)) (fun c_17 => ?_)
        exact hgo _ rfl
    · show (sQf (nw h 103 (xs.length + max 1 (xs.length / 2))) (hN h) (va_cpy (hQ h d) (hQ h (hN h)) 0 0 (hL h d))).2.2.2.2.2.2.1 (hN h) i = some x
      have hi2 : i < xs.length := (List.getElem?_eq_some_iff.mp hi).1
      show hQ (sQf (nw h 103 (xs.length + max 1 (xs.length / 2))) (hN h) (va_cpy (hQ h d) (hQ h (hN h)) 0 0 (hL h d))) (hN h) i = some x
      rw [qF_eq, pk_cpy_in (Nat.zero_le i) (by omega), Nat.zero_add, Nat.sub_zero]
      exact h8 i x hi
    · have hj2 : hQ (sQf (nw h 103 (xs.length + max 1 (xs.length / 2))) (hN h) (va_cpy (hQ h d) (hQ h (hN h)) 0 0 (hL h d))) (hN h) j = some b := hj
      rw [qF_eq] at hj2
      unfold va_cpy at hj2
      split at hj2
      · exact hg0.2.2.2.2.1 _ _ _ hj2
      · exact hg0.2.2.2.2.1 _ _ _ hj2
theorem c_grow (l : Launch) (G : Gl) {h : Hp} {a d ci : Nat} {xs : List Nat} (hg0 : Good h) (hAL : AL h a d xs) (hx : xs.length ≤ 39) (hfull : d ≠ 4 → hL h d = xs.length) (hci : LK ci) (hek : ∀ x ∈ xs, hK h x = ci) :
    ∃ h' : Hp, MRw l G yJx4a65c_grow_d5877 (.code yJx4a65c_grow_d5877 cJx4a65c_grow_d5877 1 (Option.some (Jvm.ClassFile.FieldType.array (Jvm.ClassFile.FieldType.object "java/lang/Object")))) 4 1 60 [.ref a] h (.inl (some (.ref (hN h)), h')) ∧ GP h h' a xs := by
  obtain ⟨h', M, P⟩ := c_grow1 l G hg0 hAL hx hfull hci hek
  refine ⟨h', ?_, P⟩
  have hk := hAL.1
  refine mr_of (by decide +kernel) (Nat.le_of_ble_eq_true rfl) (ct1 (by first | rfl | exact isR_cat (isR_rf _))) (fun X hG hl C E => ?_)
  subst hG hl
  refine r_aload_n (i := 0) C dJx4a65c_grow_d5877_0 rfl rfl (by first | rfl | exact isR_rf _) ?_
  refine r_aload_n (i := 0) C dJx4a65c_grow_d5877_1 rfl rfl (by first | rfl | exact isR_rf _) ?_
  refine r_getI C f_Jx4a65c_48 dJx4a65c_grow_d5877_2 rfl (by assumption) ?_
  rw [hAL.2.1]
  refine r_iconst (v := 1) C dJx4a65c_grow_d5877_5 (by decide) ?_
  refine r_iadd C dJx4a65c_grow_d5877_6 ?_
  rw [nI_1]
  refine r_callVs C v_Jx4a65c_69 M dJx4a65c_grow_d5877_7 (by assumption) (ci := 0) (by decide) rfl rfl (As := [_]) rfl rfl rfl (by first | exact Nat.le_refl _ | exact Nat.le_of_ble_eq_true rfl | omega) (Nat.le_of_ble_eq_true rfl) (by first | exact Nat.le_refl _ | exact Nat.le_of_ble_eq_true rfl | omega) (by first | exact Nat.le_refl _ | exact Nat.le_of_ble_eq_true rfl | omega) ?_
  refine r_aret (o := some _) C E dJx4a65c_grow_d5877_10 rfl rfl (by omega) (by omega)
