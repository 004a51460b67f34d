/-! ===== lists: clear(), the constructor ===== -/
theorem sQ_sQf {h : Hp} {d j : Nat} {g : Nat → Option Nat} {v : Option Nat} : sQ (sQf h d g) d j v = sQf h d (va_up g j v) := by
  unfold sQ
  rw [qF_eq]
  show (_, _, _, _, _, _, va_up (va_up (hQ h) d g) d (va_up g j v), _) = _
  rw [bx_uu]
  rfl
theorem sQf_id {h : Hp} {d : Nat} {g : Nat → Option Nat} (e : g = hQ h d) : sQf h d g = h := by
  subst e
  unfold sQf
  have : va_up (hQ h) d (hQ h d) = hQ h := funext fun b => by
    by_cases q : b = d
    · subst q; rw [va_up_self]
    · rw [va_up_ne _ _ q]
  rw [this]
  rfl
def nul (g : Nat → Option Nat) (k : Nat) : Nat → Option Nat := fun j => if j < k then none else g j
theorem nul_0 (g : Nat → Option Nat) : nul g 0 = g := funext fun j => if_neg (Nat.not_lt_zero j)
theorem nul_s (g : Nat → Option Nat) (k : Nat) : va_up (nul g k) k none = nul g (k + 1) := funext fun j => by
  unfold nul
  by_cases q : j = k
  · subst q; rw [va_up_self, if_pos (Nat.lt_succ_self _)]
  · rw [va_up_ne _ _ q]
    by_cases c : j < k
    · rw [if_pos c, if_pos (by omega)]
    · rw [if_neg c, if_neg (by omega)]
theorem c_clear (l : Launch) (G : Gl) {h : Hp} {a d : Nat} {xs : List Nat} (hg0 : Good h) (hAL : AL h a d xs) :
    ∃ h' : Hp, MRw l G yJx4a65c_clear_da8c8 (.code yJx4a65c_clear_da8c8 cJx4a65c_clear_da8c8 4 none) 0 0 0 [.ref a] h (.inl (none, h')) ∧ AL h' a d [] ∧ ALf h h' a d d ∧ Good h' := by
  have hAL1 := hAL
  obtain ⟨hk, h1, h2, h3, h4⟩ := hAL1
  obtain ⟨hh, eh⟩ : ∃ z, z = sI (sI h fA_modCount a (hI h fA_modCount a + 1)) fA_size a 0 := ⟨_, rfl⟩
  have hsz : hI (sI h fA_modCount a (hI h fA_modCount a + 1)) fA_size a = nI xs.length := (congrFun (iI_ne (by decide)) a).trans h1
  have hhQ : hQ hh = hQ h := by rw [eh]; rfl
  obtain ⟨hf, ef⟩ : ∃ z, z = sQf hh d (nul (hQ h d) xs.length) := ⟨_, rfl⟩
  have hfo : hN hf = hN h ∧ hK hf = hK h ∧ hL hf = hL h ∧ hR hf = hR h ∧ hA hf = hA h ∧ hW hf = hW h := by rw [ef, eh]; exact ⟨rfl, rfl, rfl, rfl, rfl, rfl⟩
  have hfI : hI hf = hI hh := by rw [ef]; rfl
  have hfN : ∀ b, b ≠ d → hQ hf b = hQ h b := fun b hb => by rw [ef, qF_ne hb, hhQ]
  have hQC : QC hf d := fun j b hj => by
    rw [hfo.1]
    rw [ef, qF_eq] at hj
    unfold nul at hj
    split at hj
    · cases hj
    · exact hg0.2.2.2.2.1 _ _ _ hj
  have hFf : ALf h hf a d d := ⟨Or.inl ⟨rfl, hfo.1, hfo.2.1, hfo.2.2.1⟩, fun f g1 g2 => by rw [hfI, eh, iI_ne g2, iI_ne g1], fun f b q => by rw [hfI, eh, iI_nb q, iI_nb q], fun f _ => congrFun hfo.2.2.2.1 f, fun f b _ => congrFun (congrFun hfo.2.2.2.1 f) b, hfo.2.2.2.2.1, hfo.2.2.2.2.2, hfN⟩
  suffices hb : MRw l G yJx4a65c_clear_da8c8 (.code yJx4a65c_clear_da8c8 cJx4a65c_clear_da8c8 4 none) 0 0 0 [.ref a] h (.inl (none, hf)) ∧ AL hf a d [] from ⟨hf, hb.1, hb.2, hFf, gd_AL hg0 (kind_in hg0 hk (by decide)).2 hb.2 hFf hQC⟩
  refine ⟨?_, ⟨by rw [hfo.2.1]; exact hk, by rw [hfI, eh]; exact iI_at, by rw [hfo.2.2.2.1]; exact h2, by decide, ?_⟩⟩
  · have hn := AL_len hAL
    have hkh : hK hh a = 0 := by rw [eh]; exact hk
    have e2 : hR (sI h fA_modCount a (hI h fA_modCount a + 1)) fA_elementData a = some d := h2
    refine mr_of (by decide +kernel) (Nat.le_of_ble_eq_true rfl) (ct1 (by first | rfl | exact isR_cat (isR_rf _))) (fun X hG hl C E => ?_)
    subst hG hl
    have hloop : ∀ (m k : Nat), k + m = xs.length → wr X 0 0 27 [.ref a, .ref d, .int (nI xs.length), .int (nI k)] [] (sQf hh d (nul (hQ h d) k)) := by
      intro m
      induction m with
      | zero =>
        intro k hkm
        have : k = xs.length := by omega
        subst this
        refine r_iload_n (i := 3) C dJx4a65c_clear_da8c8_27 rfl rfl ?_
        refine r_iload_n (i := 2) C dJx4a65c_clear_da8c8_28 rfl rfl ?_
        refine rn_ic_ge C xs.length xs.length rfl rfl hn hn (tgt := 42) dJx4a65c_clear_da8c8_29 (by decide) (fun _ => ?_) (fun q => absurd q (Nat.lt_irrefl _))
        rw [ef] at E
        exact r_vret C E dJx4a65c_clear_da8c8_42 rfl (by first | exact Nat.le_refl _ | exact Nat.le_of_ble_eq_true rfl | omega) (by first | exact Nat.le_refl _ | exact Nat.le_of_ble_eq_true rfl | omega)
      | succ m ih =>
        intro k hkm
        refine r_iload_n (i := 3) C dJx4a65c_clear_da8c8_27 rfl rfl ?_
        refine r_iload_n (i := 2) C dJx4a65c_clear_da8c8_28 rfl rfl ?_
        refine rn_ic_ge C k xs.length rfl rfl (by omega) hn (tgt := 42) dJx4a65c_clear_da8c8_29 (by decide) (fun q => absurd q (by omega)) (fun _ => ?_)
        refine r_aload_n (i := 1) C dJx4a65c_clear_da8c8_32 rfl rfl (by first | rfl | exact isR_rf _) ?_
        refine r_iload_n (i := 3) C dJx4a65c_clear_da8c8_33 rfl rfl ?_
        refine r_null C dJx4a65c_clear_da8c8_34 ?_
        rcases h4 with ⟨-, rfl⟩ | ⟨q0, q1, q2, q3, q4⟩
        · simp at hkm
        · refine r_aastN (q := 0) C dJx4a65c_clear_da8c8_35 (show hK (sQf hh d _) d = 103 by show hK hh d = 103; rw [eh]; exact q1) (by decide) rfl (show k < hL (sQf hh d _) d by show k < hL hh d; rw [eh]; show k < hL h d; omega) ?_
          rw [sQ_sQf, nul_s]
          refine r_iinc1 (i := 3) C dJx4a65c_clear_da8c8_36 rfl ?_
          rw [nI_1]
          refine r_goto (tgt := 27) C dJx4a65c_clear_da8c8_39 (by decide) ?_
          exact ih (k + 1) (by omega)
    refine r_aload_n (i := 0) C dJx4a65c_clear_da8c8_0 rfl rfl (by first | rfl | exact isR_rf _) ?_
    refine r_dup C (by first | rfl | exact isR_cat (isR_rf _)) dJx4a65c_clear_da8c8_1 ?_
    refine r_getI C f_Jx4a65c_63 dJx4a65c_clear_da8c8_2 rfl (by assumption) ?_
    refine r_iconst (v := 1) C dJx4a65c_clear_da8c8_5 (by decide) ?_
    refine r_iadd C dJx4a65c_clear_da8c8_6 ?_
    refine r_putI C f_Jx4a65c_63 dJx4a65c_clear_da8c8_7 rfl rfl rfl (by assumption) ?_
    refine r_aload_n (i := 0) C dJx4a65c_clear_da8c8_10 rfl rfl (by first | rfl | exact isR_rf _) ?_
    refine r_getR C f_Jx4a65c_9 dJx4a65c_clear_da8c8_11 rfl (by assumption) ?_
    rw [e2]
    refine r_astore_n (i := 1) C dJx4a65c_clear_da8c8_14 rfl (Nat.le_of_ble_eq_true rfl) (by first | rfl | exact isR_rf _) ?_
    refine r_aload_n (i := 0) C dJx4a65c_clear_da8c8_15 rfl rfl (by first | rfl | exact isR_rf _) ?_
    refine r_getI C f_Jx4a65c_48 dJx4a65c_clear_da8c8_16 rfl (by assumption) ?_
    rw [hsz]
    refine r_istore_n (i := 2) C dJx4a65c_clear_da8c8_19 rfl (Nat.le_of_ble_eq_true rfl) ?_
    refine r_aload_n (i := 0) C dJx4a65c_clear_da8c8_20 rfl rfl (by first | rfl | exact isR_rf _) ?_
    refine r_iconst (v := 0) C dJx4a65c_clear_da8c8_21 (by decide) ?_
    refine r_dup_x1 C (by first | rfl | exact isR_cat (isR_rf _)) (by first | rfl | exact isR_cat (isR_rf _)) dJx4a65c_clear_da8c8_22 ?_
    refine r_putI C f_Jx4a65c_48 dJx4a65c_clear_da8c8_23 rfl rfl rfl (by assumption) ?_
    refine r_istore_n (i := 3) C dJx4a65c_clear_da8c8_26 rfl (Nat.le_of_ble_eq_true rfl) ?_
    rw [← eh]
    have h0 := hloop xs.length 0 (Nat.zero_add _)
    rw [nul_0, sQf_id (by rw [hhQ])] at h0
    exact h0
  · rcases h4 with ⟨rfl, rfl⟩ | ⟨q0, q1, q2, q3, q4⟩
    · exact Or.inl ⟨rfl, rfl⟩
    · exact Or.inr ⟨q0, by rw [hfo.2.1]; exact q1, Nat.zero_le _, by rw [hfo.2.2.1]; exact q3, fun i x hi => by cases hi⟩
theorem c_colInit (l : Launch) (G : Gl) {h : Hp} {a : Nat} : MRw l G yJxa1e45_init_da8c8 (.code yJxa1e45_init_da8c8 cJxa1e45_init_da8c8 1 none) 1 0 0 [.ref a] h (.inl (none, h)) := by
  refine mr_of (by decide +kernel) (Nat.le_of_ble_eq_true rfl) (ct1 (by first | rfl | exact isR_cat (isR_rf _))) (fun X hG hl C E => ?_)
  subst hG hl
  have hN9 : meth_nm X = "<init>" := cx_nm C
  refine r_aload_n (i := 0) C dJxa1e45_init_da8c8_0 rfl rfl (by first | rfl | exact isR_rf _) ?_
  refine r_oinit C dJxa1e45_init_da8c8_1 (by first | exact Nat.le_refl _ | exact Nat.le_of_ble_eq_true rfl | omega) rfl (by decide) l_Jxa1e45_1 w_oiM w_oiC ?_
  exact r_vret C E dJxa1e45_init_da8c8_4 rfl (by first | exact Nat.le_refl _ | exact Nat.le_of_ble_eq_true rfl | omega) (by first | exact Nat.le_refl _ | exact Nat.le_of_ble_eq_true rfl | omega)
theorem c_absInit (l : Launch) (G : Gl) {h : Hp} {a : Nat} (hk : hK h a = 0) : MRw l G yJxc12de_init_da8c8 (.code yJxc12de_init_da8c8 cJxc12de_init_da8c8 1 none) 2 0 0 [.ref a] h (.inl (none, sI h fA_modCount a 0)) := by
  refine mr_of (by decide +kernel) (Nat.le_of_ble_eq_true rfl) (ct1 (by first | rfl | exact isR_cat (isR_rf _))) (fun X hG hl C E => ?_)
  subst hG hl
  have hN9 : meth_nm X = "<init>" := cx_nm C
  refine r_aload_n (i := 0) C dJxc12de_init_da8c8_0 rfl rfl (by first | rfl | exact isR_rf _) ?_
  refine r_callI C i_Jxc12de_1 (c_colInit _ _) dJxc12de_init_da8c8_1 (As := []) rfl rfl rfl (by first | exact Nat.le_refl _ | exact Nat.le_of_ble_eq_true rfl | omega) (Nat.le_of_ble_eq_true rfl) (by first | exact Nat.le_refl _ | exact Nat.le_of_ble_eq_true rfl | omega) (by first | exact Nat.le_refl _ | exact Nat.le_of_ble_eq_true rfl | omega) ?_
  refine r_aload_n (i := 0) C dJxc12de_init_da8c8_4 rfl rfl (by first | rfl | exact isR_rf _) ?_
  refine r_iconst (v := 0) C dJxc12de_init_da8c8_5 (by decide) ?_
  refine r_putI C f_Jxc12de_7 dJxc12de_init_da8c8_6 rfl rfl rfl (by assumption) ?_
  exact r_vret C E dJxc12de_init_da8c8_9 rfl (by first | exact Nat.le_refl _ | exact Nat.le_of_ble_eq_true rfl | omega) (by first | exact Nat.le_refl _ | exact Nat.le_of_ble_eq_true rfl | omega)
theorem c_listInit (l : Launch) (G : Gl) {h : Hp} {a : Nat} (hk : hK h a = 0) : MRw l G yJx4a65c_init_da8c8 (.code yJx4a65c_init_da8c8 cJx4a65c_init_da8c8 1 none) 3 0 0 [.ref a] h (.inl (none, sR (sI h fA_modCount a 0) fA_elementData a (some 4))) := by
  refine mr_of (by decide +kernel) (Nat.le_of_ble_eq_true rfl) (ct1 (by first | rfl | exact isR_cat (isR_rf _))) (fun X hG hl C E => ?_)
  subst hG hl
  have hN9 : meth_nm X = "<init>" := cx_nm C
  refine r_aload_n (i := 0) C dJx4a65c_init_da8c8_0 rfl rfl (by first | rfl | exact isR_rf _) ?_
  refine r_callI C i_Jx4a65c_1 (c_absInit _ _ hk) dJx4a65c_init_da8c8_1 (As := []) rfl rfl rfl (by first | exact Nat.le_refl _ | exact Nat.le_of_ble_eq_true rfl | omega) (Nat.le_of_ble_eq_true rfl) (by first | exact Nat.le_refl _ | exact Nat.le_of_ble_eq_true rfl | omega) (by first | exact Nat.le_refl _ | exact Nat.le_of_ble_eq_true rfl | omega) ?_
  have hk' : hK (sI h fA_modCount a 0) a = 0 := hk
  refine r_aload_n (i := 0) C dJx4a65c_init_da8c8_4 rfl rfl (by first | rfl | exact isR_rf _) ?_
  refine r_gs4 C dJx4a65c_init_da8c8_5 g_Jx4a65c_39 ?_
  first | refine r_putR (o := some _) C f_Jx4a65c_9 dJx4a65c_init_da8c8_8 rfl (by assumption) ?_ | refine r_putR (o := none) C f_Jx4a65c_9 dJx4a65c_init_da8c8_8 rfl (by assumption) ?_ | refine r_putR C f_Jx4a65c_9 dJx4a65c_init_da8c8_8 rfl (by assumption) ?_
  exact r_vret C E dJx4a65c_init_da8c8_11 rfl (by first | exact Nat.le_refl _ | exact Nat.le_of_ble_eq_true rfl | omega) (by first | exact Nat.le_refl _ | exact Nat.le_of_ble_eq_true rfl | omega)
