/-! ===== lists: adding, removing, clearing, making ===== -/
theorem AL_put {h : Hp} {a d v : Nat} {xs : List Nat} (hk : hK h a = 0) (hr : hR h fA_elementData a = some d) (h6 : 6 ≤ d) (hkd : hK h d = 103) (hn : xs.length < hL h d) (hm : hL h d ≤ 60) (hx : xs.length ≤ 39) (hq : ∀ (i x : Nat), xs[i]? = some x → hQ h d i = some x) :
    AL (sI (sQ h d xs.length (some v)) fA_size a (nI (xs.length + 1))) a d (xs ++ [v]) := by
  refine ⟨hk, by rw [iI_at]; simp, hr, by simp; omega, Or.inr ⟨h6, hkd, by simp; exact hn, hm, fun i x hi => ?_⟩⟩
  show hQ (sQ h d xs.length (some v)) d i = some x
  rw [qQ_eq]
  by_cases e : i = xs.length
  · subst e
    rw [va_up_self]
    simpa using hi
  · rw [va_up_ne _ _ e]
    refine hq i x ?_
    rwa [List.getElem?_append_left] at hi
    have := (List.getElem?_eq_some_iff.mp hi).1
    simp at this
    omega
theorem ALf_put {h : Hp} {a d n : Nat} {v : Option Nat} {w : Int32} : ALf h (sI (sQ h d n v) fA_size a w) a d d :=
  ⟨Or.inl ⟨rfl, rfl, rfl, rfl⟩, fun f _ h2 => iI_ne h2, fun f b hb => iI_nb hb, fun _ _ => rfl, fun _ _ _ => rfl, rfl, rfl, fun b hb => qQ_ne hb⟩
theorem ALf_grow {h hg : Hp} {a d n : Nat} {v : Option Nat} {w : Int32} {xs : List Nat} (P : GP h hg a xs) : ALf h (sI (sQ hg (hN h) n v) fA_size a w) a d (hN h) := by
  obtain ⟨p1, p2, p3, p4, p5, ⟨m, p6, ⟨p7, -, -⟩, p8⟩, p9, p10, p11, p12⟩ := P
  refine ⟨Or.inr ⟨rfl, p4, p5, m, p6, p8⟩, fun f _ h2 => (iI_ne h2).trans (congrFun p1 f), fun f b hb => (iI_nb hb).trans (congrFun (congrFun p1 f) b), fun f hf => ?_, fun f b hb => ?_, p2, p3, fun b hb => (qQ_ne hb).trans (p10 b hb)⟩
  · show hR hg f = hR h f
    rw [p9, va_up_ne _ _ hf]
  · show hR hg f b = hR h f b
    rw [p9]
    by_cases e : f = fA_elementData
    · subst e
      rw [va_up_self, va_up_ne _ _ hb]
    · rw [va_up_ne _ _ e]
theorem ALf_mod {h h' : Hp} {a d d' : Nat} {w : Int32} (F : ALf (sI h fA_modCount a w) h' a d d') : ALf h h' a d d' := by
  obtain ⟨f1, f2, f3, f4, f5, f6, f7, f8⟩ := F
  exact ⟨f1, fun f h1 h2 => (f2 f h1 h2).trans (iI_ne h1), fun f b hb => (f3 f b hb).trans (iI_nb hb), f4, f5, f6, f7, f8⟩
theorem AL_mod {h : Hp} {a b d : Nat} {w : Int32} {xs : List Nat} (H : AL h a d xs) : AL (sI h fA_modCount b w) a d xs := by
  obtain ⟨h1, h2, h3⟩ := H
  exact ⟨h1, (congrFun (iI_ne (by decide)) a).trans h2, h3⟩
/-- what an add cost: nothing where there was room, else a row that is longer by half -/
def AC (h h' : Hp) (d d' n c : Nat) : Prop :=
  (c = 0 ∧ d' = d ∧ d ≠ 4 ∧ hL h' d' = hL h d) ∨ (c = 1 ∧ d' = hN h ∧ (d = 4 ∨ hL h d = n) ∧ (d = 4 → 10 ≤ hL h' d') ∧ n + n / 2 ≤ hL h' d')
theorem AC_le {h h' : Hp} {d d' n c : Nat} (H : AC h h' d d' n c) : c ≤ 1 := by
  rcases H with ⟨e, -⟩ | ⟨e, -⟩ <;> omega
/-- the row d' holds nothing that is not there -/
def QC (h' : Hp) (d' : Nat) : Prop := ∀ (j b : Nat), hQ h' d' j = some b → b < hN h'
/-- a call on a list leaves a good state -/
theorem gd_AL {h h' : Hp} {l d d' : Nat} {xs : List Nat} (hg : Good h) (hl : l < hN h) (P : AL h' l d' xs) (F : ALf h h' l d d') (Q : QC h' d') : Good h' := by
  obtain ⟨f1, f2, f3, f4, f5, f6, f7, f8⟩ := F
  obtain ⟨g1, g2, g3, g4, g5, g6, g7⟩ := hg
  have hd' : d' < hN h' ∨ d' = 4 := by
    rcases P.2.2.2.2 with ⟨e, -⟩ | ⟨-, e, -⟩
    · exact Or.inr e
    · rcases f1 with ⟨e1, e2, e3, e4⟩ | ⟨e1, e2, e3, -⟩
      · rw [e3] at e
        rcases Nat.lt_or_ge d' (hN h) with c | c
        · rw [e2]; exact Or.inl c
        · rw [(g3 d' c).1] at e; exact absurd e (by decide)
      · omega
  have hNN : hN h ≤ hN h' := by rcases f1 with ⟨-, e, -⟩ | ⟨-, e, -⟩ <;> omega
  have hd6 : d' < hN h' := by rcases hd' with c | c <;> omega
  refine ⟨Nat.le_trans g1 hNN, fun a ha => ?_, fun a ha => ⟨?_, fun f => ⟨?_, ?_⟩, fun j => ⟨?_, ?_, ?_⟩⟩, fun f a b hb => ?_, fun a j b hb => ?_, fun a h6 ha => ?_, fun a => ?_⟩
  · rcases f1 with ⟨-, -, e, -⟩ | ⟨-, -, e, -⟩
    · rw [e]; exact g2 a ha
    · rw [e, va_up_ne _ _ (by omega)]; exact g2 a ha
  · rcases f1 with ⟨-, e0, e, -⟩ | ⟨-, e0, e, -⟩
    · rw [e]; exact (g3 a (by omega)).1
    · rw [e, va_up_ne _ _ (by omega)]; exact (g3 a (by omega)).1
  · rw [f3 f a (by omega)]; exact ((g3 a (by omega)).2.1 f).1
  · rw [f5 f a (by omega)]; exact ((g3 a (by omega)).2.1 f).2
  · rw [f6]; exact ((g3 a (by omega)).2.2 j).1
  · rw [f8 a (by omega)]; exact ((g3 a (by omega)).2.2 j).2.1
  · rw [f7]; exact ((g3 a (by omega)).2.2 j).2.2
  · by_cases c : a = l
    · by_cases cf : f = fA_elementData
      · rw [c, cf, P.2.2.1] at hb
        cases hb
        exact hd6
      · rw [f4 f cf] at hb
        exact Nat.lt_of_lt_of_le (g4 _ _ _ hb) hNN
    · rw [f5 f a c] at hb
      exact Nat.lt_of_lt_of_le (g4 _ _ _ hb) hNN
  · by_cases c : a = d'
    · rw [c] at hb; exact Q j b hb
    · rw [f8 a c] at hb
      exact Nat.lt_of_lt_of_le (g5 _ _ _ hb) hNN
  · rcases f1 with ⟨-, e0, e, -⟩ | ⟨-, e0, e, -⟩
    · rw [e]; exact g6 a h6 (by omega)
    · rw [e]
      by_cases c : a = hN h
      · rw [c, va_up_self]; rfl
      · rw [va_up_ne _ _ c]; exact g6 a h6 (by omega)
  · rcases f1 with ⟨-, -, -, e⟩ | ⟨-, -, -, n, hn, e⟩
    · rw [e]; exact g7 a
    · rw [e]
      by_cases c : a = hN h
      · rw [c, va_up_self]; omega
      · rw [va_up_ne _ _ c]; exact g7 a
theorem c_add3 (l : Launch) (G : Gl) {h : Hp} {a d v ci : Nat} {xs : List Nat} (hg0 : Good h) (hAL : AL h a d xs) (hx : xs.length ≤ 39) (hci : LK ci) (hek : ∀ x ∈ xs, hK h x = ci) (hkv : hK h v = ci) :
    ∃ (h' : Hp) (d' c : Nat), MRw l G yJx4a65c_add_72be8 (.code yJx4a65c_add_72be8 cJx4a65c_add_72be8 4 none) 5 c (60 * c) [.ref a, .ref v, .ref d, .int (nI xs.length)] h (.inl (none, h')) ∧ AL h' a d' (xs ++ [v]) ∧ ALf h h' a d d' ∧ AC h h' d d' xs.length c ∧ QC h' d' := by
  have hAL0 := hAL
  obtain ⟨hk, h1, h2, h3, h4⟩ := hAL
  by_cases hfull : d ≠ 4 → hL h d = xs.length
  · obtain ⟨hg, M, P⟩ := c_grow l G hg0 hAL0 hx hfull hci hek
    obtain ⟨hc1, r, hc2, hc3⟩ := hci
    have P0 := P
    obtain ⟨p1, p2, p3, p4, p5, ⟨m, p6, ⟨p7, p7a, p7b⟩, p8⟩, p9, p10, p11, p12⟩ := P
    have hkn := kind_in hg0 hk (by decide)
    have hvn := kind_in hg0 hkv (by omega)
    have hka : hK hg a = 0 := by rw [p5, va_up_ne _ _ (by omega)]; exact hk
    have hkd : hK hg (hN h) = 103 := by rw [p5, va_up_self]
    have hld : hL hg (hN h) = m := by rw [p8, va_up_self]
    have hkv' : hK hg v = ci := by rw [p5, va_up_ne _ _ (by omega)]; exact hkv
    refine ⟨sI (sQ hg (hN h) xs.length (some v)) fA_size a (nI (xs.length + 1)), hN h, 1, ?_, AL_put hka (by rw [p9, va_up_self, va_up_self]) hg0.1 hkd (by omega) (by omega) hx p11, ALf_grow P0, Or.inr ⟨rfl, rfl, (by by_cases q : d = 4; exact Or.inl q; exact Or.inr (hfull q)), fun q => Nat.le_trans (p7a (by rw [h2, q])) (Nat.le_of_eq hld.symm), Nat.le_trans p7b (Nat.le_of_eq hld.symm)⟩, fun j b hj => ?_⟩
    rotate_left
    · have hj2 : hQ (sQ hg (hN h) xs.length (some v)) (hN h) j = some b := hj
      rw [qQ_eq] at hj2
      show b < hN hg
      by_cases c : j = xs.length
      · rw [c, va_up_self] at hj2; cases hj2; omega
      · rw [va_up_ne _ _ c] at hj2; have := p12 j b hj2; omega
    refine mr_of (by decide +kernel) (Nat.le_of_ble_eq_true rfl) (ct4 (by first | rfl | exact isR_cat (isR_rf _)) (by first | rfl | exact isR_cat (isR_rf _)) (by first | rfl | exact isR_cat (isR_rf _)) (by first | rfl | exact isR_cat (isR_rf _))) (fun X hG hl C E => ?_)
    subst hG hl
    have hgo : wr X (0 + 1) (0 + 60) 10 [.ref a, .ref v, .ref d, .int (nI xs.length)] [.ref (hN h)] hg := by
      refine r_astore_n (i := 2) C dJx4a65c_add_72be8_10 rfl (Nat.le_of_ble_eq_true rfl) (by first | rfl | exact isR_rf _) ?_
      refine r_aload_n (i := 2) C dJx4a65c_add_72be8_11 rfl rfl (by first | rfl | exact isR_rf _) ?_
      refine r_iload_n (i := 3) C dJx4a65c_add_72be8_12 rfl rfl ?_
      refine r_aload_n (i := 1) C dJx4a65c_add_72be8_13 rfl rfl (by first | rfl | exact isR_rf _) ?_
      refine r_aastO C dJx4a65c_add_72be8_14 hkd rfl (by omega) hkv' hc1 hc2 hc3 ?_
      refine r_aload_n (i := 0) C dJx4a65c_add_72be8_15 rfl rfl (by first | rfl | exact isR_rf _) ?_
      refine r_iload_n (i := 3) C dJx4a65c_add_72be8_16 rfl rfl ?_
      refine r_iconst (v := 1) C dJx4a65c_add_72be8_17 (by decide) ?_
      refine r_iadd C dJx4a65c_add_72be8_18 ?_
      rw [nI_1]
      refine r_putI C f_Jx4a65c_48 dJx4a65c_add_72be8_19 rfl rfl rfl hka ?_
      exact r_vret C E dJx4a65c_add_72be8_22 rfl (by first | exact Nat.le_refl _ | exact Nat.le_of_ble_eq_true rfl | omega) (by first | exact Nat.le_refl _ | exact Nat.le_of_ble_eq_true rfl | omega)
    refine r_iload_n (i := 3) C dJx4a65c_add_72be8_0 rfl rfl ?_
    refine r_aload_n (i := 2) C dJx4a65c_add_72be8_1 rfl rfl (by first | rfl | exact isR_rf _) ?_
    rcases h4 with ⟨rfl, rfl⟩ | ⟨h0, h5, h6, h7, h8⟩
    · refine r_elen C dJx4a65c_add_72be8_2 ?_
      refine r_ic_ne (tgt := 11) C dJx4a65c_add_72be8_3 (by decide) (fun c_3 => ?_) (fun c_3 => ?_)
      · exact absurd rfl c_3
      · refine r_aload_n (i := 0) C dJx4a65c_add_72be8_6 rfl rfl (by first | rfl | exact isR_rf _) ?_
        refine r_callVs C v_Jx4a65c_129 M dJx4a65c_add_72be8_7 (by assumption) (ci := 0) (by decide) rfl rfl (As := []) rfl rfl rfl (by first | exact Nat.le_refl _ | exact Nat.le_of_ble_eq_true rfl | omega) (Nat.le_of_ble_eq_true rfl) (by first | exact Nat.le_refl _ | exact Nat.le_of_ble_eq_true rfl | omega) (by first | exact Nat.le_refl _ | exact Nat.le_of_ble_eq_true rfl | omega) ?_
        exact hgo
    · refine r_alen C dJx4a65c_add_72be8_2 h5 (by decide) ?_
      rw [hfull (by omega)]
      refine r_ic_ne (tgt := 11) C dJx4a65c_add_72be8_3 (by decide) (fun c_3 => ?_) (fun c_3 => ?_)
      · exact absurd rfl c_3
      · refine r_aload_n (i := 0) C dJx4a65c_add_72be8_6 rfl rfl (by first | rfl | exact isR_rf _) ?_
        refine r_callVs C v_Jx4a65c_129 M dJx4a65c_add_72be8_7 (by assumption) (ci := 0) (by decide) rfl rfl (As := []) rfl rfl rfl (by first | exact Nat.le_refl _ | exact Nat.le_of_ble_eq_true rfl | omega) (Nat.le_of_ble_eq_true rfl) (by first | exact Nat.le_refl _ | exact Nat.le_of_ble_eq_true rfl | omega) (by first | exact Nat.le_refl _ | exact Nat.le_of_ble_eq_true rfl | omega) ?_
        exact hgo
  · obtain ⟨hd4, hfull⟩ := Classical.not_imp.mp hfull
    rcases h4 with ⟨rfl, rfl⟩ | ⟨h0, h5, h6, h7, h8⟩
    · exact absurd rfl hd4
    · obtain ⟨hc1, r, hc2, hc3⟩ := hci
      refine ⟨sI (sQ h d xs.length (some v)) fA_size a (nI (xs.length + 1)), d, 0, ?_, AL_put hk h2 h0 h5 (by omega) h7 hx h8, ALf_put, Or.inl ⟨rfl, rfl, hd4, rfl⟩, fun j b hj => ?_⟩
      rotate_left
      · have hj2 : hQ (sQ h d xs.length (some v)) d j = some b := hj
        rw [qQ_eq] at hj2
        show b < hN h
        by_cases c : j = xs.length
        · rw [c, va_up_self] at hj2; cases hj2; exact (kind_in hg0 hkv (by omega)).2
        · rw [va_up_ne _ _ c] at hj2; exact hg0.2.2.2.2.1 _ _ _ hj2
      refine mr_of (by decide +kernel) (Nat.le_of_ble_eq_true rfl) (ct4 (by first | rfl | exact isR_cat (isR_rf _)) (by first | rfl | exact isR_cat (isR_rf _)) (by first | rfl | exact isR_cat (isR_rf _)) (by first | rfl | exact isR_cat (isR_rf _))) (fun X hG hl C E => ?_)
      subst hG hl
      refine r_iload_n (i := 3) C dJx4a65c_add_72be8_0 rfl rfl ?_
      refine r_aload_n (i := 2) C dJx4a65c_add_72be8_1 rfl rfl (by first | rfl | exact isR_rf _) ?_
      refine r_alen C dJx4a65c_add_72be8_2 (by assumption) (by decide) ?_
      refine rn_ic_ne C xs.length (hL h d) rfl rfl (by omega) (by omega) (tgt := 11) dJx4a65c_add_72be8_3 (by decide) (fun c_3 => ?_) (fun c_3 => absurd c_3.symm hfull)
      refine r_aload_n (i := 2) C dJx4a65c_add_72be8_11 rfl rfl (by first | rfl | exact isR_rf _) ?_
      refine r_iload_n (i := 3) C dJx4a65c_add_72be8_12 rfl rfl ?_
      refine r_aload_n (i := 1) C dJx4a65c_add_72be8_13 rfl rfl (by first | rfl | exact isR_rf _) ?_
      refine r_aastO C dJx4a65c_add_72be8_14 h5 rfl (by omega) hkv hc1 hc2 hc3 ?_
      refine r_aload_n (i := 0) C dJx4a65c_add_72be8_15 rfl rfl (by first | rfl | exact isR_rf _) ?_
      refine r_iload_n (i := 3) C dJx4a65c_add_72be8_16 rfl rfl ?_
      refine r_iconst (v := 1) C dJx4a65c_add_72be8_17 (by decide) ?_
      refine r_iadd C dJx4a65c_add_72be8_18 ?_
      rw [nI_1]
      refine r_putI C f_Jx4a65c_48 dJx4a65c_add_72be8_19 rfl rfl rfl (by assumption) ?_
      exact r_vret C E dJx4a65c_add_72be8_22 rfl (by first | exact Nat.le_refl _ | exact Nat.le_of_ble_eq_true rfl | omega) (by first | exact Nat.le_refl _ | exact Nat.le_of_ble_eq_true rfl | omega)

theorem c_add (l : Launch) (G : Gl) {h : Hp} {a d v ci : Nat} {xs : List Nat} (hg0 : Good h) (hAL : AL h a d xs) (hx : xs.length ≤ 39) (hci : LK ci) (hek : ∀ x ∈ xs, hK h x = ci) (hkv : hK h v = ci) :
    ∃ (h' : Hp) (d' c : Nat), MRw l G yJx4a65c_add_9ea2d (.code yJx4a65c_add_9ea2d cJx4a65c_add_9ea2d 2 (Option.some Jvm.ClassFile.FieldType.boolean)) 6 c (60 * c) [.ref a, .ref v] h (.inl (some (.int 1), h')) ∧ AL h' a d' (xs ++ [v]) ∧ ALf h h' a d d' ∧ AC h h' d d' xs.length c ∧ Good h' := by
  have hk := hAL.1
  have hkn := kind_in hg0 hk (by decide)
  obtain ⟨h', d', c, M, P, F, A, Q⟩ := c_add3 l G (h := sI h fA_modCount a (hI h fA_modCount a + 1)) (gd_sI hg0 hkn.2) (AL_mod hAL) hx hci hek hkv
  refine ⟨h', d', c, ?_, P, ALf_mod F, A, gd_AL hg0 hkn.2 P (ALf_mod F) Q⟩
  have e1 : hR (sI h fA_modCount a (hI h fA_modCount a + 1)) fA_elementData a = some d := hAL.2.2.1
  have e2 : hI (sI h fA_modCount a (hI h fA_modCount a + 1)) fA_size a = nI xs.length := (congrFun (iI_ne (by decide)) a).trans hAL.2.1
  refine mr_of (by decide +kernel) (Nat.le_of_ble_eq_true rfl) (ct2 (by first | rfl | exact isR_cat (isR_rf _)) (by first | rfl | exact isR_cat (isR_rf _))) (fun X hG hl C E => ?_)
  subst hG hl
  refine r_aload_n (i := 0) C dJx4a65c_add_9ea2d_0 rfl rfl (by first | rfl | exact isR_rf _) ?_
  refine r_dup C (by first | rfl | exact isR_cat (isR_rf _)) dJx4a65c_add_9ea2d_1 ?_
  refine r_getI C f_Jx4a65c_63 dJx4a65c_add_9ea2d_2 rfl (by assumption) ?_
  refine r_iconst (v := 1) C dJx4a65c_add_9ea2d_5 (by decide) ?_
  refine r_iadd C dJx4a65c_add_9ea2d_6 ?_
  refine r_putI C f_Jx4a65c_63 dJx4a65c_add_9ea2d_7 rfl rfl rfl (by assumption) ?_
  refine r_aload_n (i := 0) C dJx4a65c_add_9ea2d_10 rfl rfl (by first | rfl | exact isR_rf _) ?_
  refine r_aload_n (i := 1) C dJx4a65c_add_9ea2d_11 rfl rfl (by first | rfl | exact isR_rf _) ?_
  refine r_aload_n (i := 0) C dJx4a65c_add_9ea2d_12 rfl rfl (by first | rfl | exact isR_rf _) ?_
  refine r_getR C f_Jx4a65c_9 dJx4a65c_add_9ea2d_13 rfl (by assumption) ?_
  rw [e1]
  refine r_aload_n (i := 0) C dJx4a65c_add_9ea2d_16 rfl rfl (by first | rfl | exact isR_rf _) ?_
  refine r_getI C f_Jx4a65c_48 dJx4a65c_add_9ea2d_17 rfl (by assumption) ?_
  rw [e2]
  refine r_callVn C v_Jx4a65c_131 M dJx4a65c_add_9ea2d_20 (by assumption) (ci := 0) (by decide) rfl rfl (As := [_, _, _]) rfl rfl rfl (by first | exact Nat.le_refl _ | exact Nat.le_of_ble_eq_true rfl | omega) (Nat.le_of_ble_eq_true rfl) (by first | exact Nat.le_refl _ | exact Nat.le_of_ble_eq_true rfl | omega) (by first | exact Nat.le_refl _ | exact Nat.le_of_ble_eq_true rfl | omega) ?_
  refine r_iconst (v := 1) C dJx4a65c_add_9ea2d_23 (by decide) ?_
  exact r_iret C E dJx4a65c_add_9ea2d_24 rfl (bo_nar (by first | exact Or.inl rfl | exact Or.inr rfl | assumption)).1 (by first | exact Nat.le_refl _ | exact Nat.le_of_ble_eq_true rfl | omega) (by first | exact Nat.le_refl _ | exact Nat.le_of_ble_eq_true rfl | omega)
/-! add(i, e) -/
theorem c_rangeAdd (l : Launch) (G : Gl) {h : Hp} {a d i : Nat} {xs : List Nat} (hAL : AL h a d xs) (hi : i ≤ xs.length) : MRw l G yJx4a65c_rangeCheckForAdd_d00df (.code yJx4a65c_rangeCheckForAdd_d00df cJx4a65c_rangeCheckForAdd_d00df 2 none) 0 0 0 [.ref a, .int (nI i)] h (.inl (none, h)) := by
  have hk := hAL.1
  have hn := AL_len hAL
  refine mr_of (by decide +kernel) (Nat.le_of_ble_eq_true rfl) (ct2 (by first | rfl | exact isR_cat (isR_rf _)) (by first | rfl | exact isR_cat (isR_rf _))) (fun X hG hl C E => ?_)
  subst hG hl
  refine r_iload_n (i := 1) C dJx4a65c_rangeCheckForAdd_d00df_0 rfl rfl ?_
  refine r_aload_n (i := 0) C dJx4a65c_rangeCheckForAdd_d00df_1 rfl rfl (by first | rfl | exact isR_rf _) ?_
  refine r_getI C f_Jx4a65c_48 dJx4a65c_rangeCheckForAdd_d00df_2 rfl (by assumption) ?_
  rw [hAL.2.1]
  refine r_ic_gt (tgt := 12) C dJx4a65c_rangeCheckForAdd_d00df_5 (by decide) (fun c_5 => ?_) (fun c_5 => ?_)
  · exact absurd c_5 (nI_nlt hi (by omega))
  · refine r_iload_n (i := 1) C dJx4a65c_rangeCheckForAdd_d00df_8 rfl rfl ?_
    refine r_if_ge (tgt := 25) C dJx4a65c_rangeCheckForAdd_d00df_9 (by decide) (fun c_9 => ?_) (fun c_9 => ?_)
    · exact r_vret C E dJx4a65c_rangeCheckForAdd_d00df_25 rfl (by first | exact Nat.le_refl _ | exact Nat.le_of_ble_eq_true rfl | omega) (by first | exact Nat.le_refl _ | exact Nat.le_of_ble_eq_true rfl | omega)
    · exact absurd (nI_pos' (by omega)) c_9
theorem ins_get {xs : List Nat} {i v : Nat} (hi : i ≤ xs.length) {q : Nat → Option Nat} {g : Nat → Option Nat} (hq : ∀ (j x : Nat), xs[j]? = some x → q j = some x) (hg : g = va_up (va_cpy q q i (i + 1) (xs.length - i)) i (some v)) :
    ∀ (j x : Nat), (xs.take i ++ v :: xs.drop i)[j]? = some x → g j = some x := by
  intro j x hj
  subst hg
  have hl : (xs.take i).length = i := by simp; omega
  rcases Nat.lt_trichotomy j i with c | c | c
  · rw [va_up_ne _ _ (by omega), pk_cpy_out (by omega)]
    rw [List.getElem?_append_left (by omega), List.getElem?_take_of_lt c] at hj
    exact hq j x hj
  · subst c
    rw [va_up_self]
    rw [List.getElem?_append_right (by omega), hl, Nat.sub_self] at hj
    simpa using hj
  · rw [List.getElem?_append_right (by omega), hl] at hj
    obtain ⟨m, rfl⟩ : ∃ m, j = i + 1 + m := ⟨j - i - 1, by omega⟩
    rw [show i + 1 + m - i = m + 1 by omega, List.getElem?_cons_succ, List.getElem?_drop] at hj
    have hlt := (List.getElem?_eq_some_iff.mp hj).1
    rw [va_up_ne _ _ (by omega), pk_cpy_in (by omega) (by omega), show i + (i + 1 + m - (i + 1)) = i + m by omega]
    exact hq _ x hj
theorem c_addAt (l : Launch) (G : Gl) {h : Hp} {a d v ci i : Nat} {xs : List Nat} (hg0 : Good h) (hAL : AL h a d xs) (hi : i ≤ xs.length) (hx : xs.length ≤ 39) (hci : LK ci) (hek : ∀ x ∈ xs, hK h x = ci) (hkv : hK h v = ci) :
    ∃ (h' : Hp) (d' : Nat), MRw l G yJx4a65c_add_7a177 (.code yJx4a65c_add_7a177 cJx4a65c_add_7a177 5 none) 6 1 60 [.ref a, .int (nI i), .ref v] h (.inl (none, h')) ∧ AL h' a d' (xs.take i ++ v :: xs.drop i) ∧ ALf h h' a d d' ∧ Good h' := by
  have hk := hAL.1
  have hAL9 := hAL
  have hkn := kind_in hg0 hk (by decide)
  have hvn := kind_in hg0 hkv (by have := hci.1; omega)
  have hAL0 := AL_mod (b := a) (w := hI h fA_modCount a + 1) hAL
  obtain ⟨hh, eh⟩ : ∃ z, z = sI h fA_modCount a (hI h fA_modCount a + 1) := ⟨_, rfl⟩
  rw [← eh] at hAL0
  have hgh : Good hh := by rw [eh]; exact gd_sI hg0 hkn.2
  have hNh : hN hh = hN h := by rw [eh]; rfl
  have hekh : ∀ x ∈ xs, hK hh x = ci := by rw [eh]; exact hek
  have hkvh : hK hh v = ci := by rw [eh]; exact hkv
  -- the row with room, and what holds of it
  have hrow : ∃ (hg : Hp) (d' mc' ms' : Nat), mc' ≤ 1 ∧ ms' ≤ 60 ∧ ((hg = hh ∧ d' = d ∧ (d = 4 → False) ∧ hL hh d ≠ xs.length) ∨ (d' = hN hh ∧ GP hh hg a xs ∧ (d ≠ 4 → hL hh d = xs.length) ∧ MRw l G yJx4a65c_grow_d5877 (.code yJx4a65c_grow_d5877 cJx4a65c_grow_d5877 1 (Option.some (Jvm.ClassFile.FieldType.array (Jvm.ClassFile.FieldType.object "java/lang/Object")))) 4 1 60 [.ref a] hh (.inl (some (.ref (hN hh)), hg)))) ∧
      hK hg a = 0 ∧ hK hg d' = 103 ∧ 6 ≤ d' ∧ hR hg fA_elementData a = some d' ∧ xs.length < hL hg d' ∧ hL hg d' ≤ 60 ∧ (∀ (j x : Nat), xs[j]? = some x → hQ hg d' j = some x) ∧ (∀ x ∈ xs, hK hg x = ci) ∧ hK hg v = ci ∧ v < hN hg ∧ (∀ (j b : Nat), hQ hg d' j = some b → b < hN hg) := by
    by_cases hfull : d ≠ 4 → hL hh d = xs.length
    · obtain ⟨hg, M, P⟩ := c_grow l G hgh hAL0 hx hfull hci hekh
      have P0 := P
      obtain ⟨p1, p2, p3, p4, p5, ⟨m, p6, ⟨p7, -, -⟩, p8⟩, p9, p10, p11, p12⟩ := P
      refine ⟨hg, hN hh, 1, 60, Nat.le_refl _, Nat.le_refl _, Or.inr ⟨rfl, P0, hfull, M⟩, ?_, ?_, hgh.1, ?_, ?_, ?_, p11, fun x hxm => ?_, ?_, ?_, fun j b hj => ?_⟩
      · rw [p5, va_up_ne _ _ (by omega)]; exact hAL0.1
      · rw [p5, va_up_self]
      · rw [p9, va_up_self, va_up_self]
      · rw [p8, va_up_self]; exact p7
      · rw [p8, va_up_self]; exact p6
      · have := kind_in hgh (hekh x hxm) (by have := hci.1; omega)
        rw [p5, va_up_ne _ _ (by omega)]; exact hekh x hxm
      · rw [p5, va_up_ne _ _ (by omega)]; exact hkvh
      · omega
      · have := p12 j b hj; omega
    · obtain ⟨hd4, hnf⟩ := Classical.not_imp.mp hfull
      have hAL1 := hAL0
      obtain ⟨h1, h2, h3, h4, h5⟩ := hAL1
      rcases h5 with ⟨rfl, -⟩ | ⟨q0, q1, q2, q3, q4⟩
      · exact absurd rfl hd4
      · exact ⟨hh, d, 0, 0, by omega, by omega, Or.inl ⟨rfl, rfl, hd4, hnf⟩, h1, q1, q0, h3, by omega, q3, q4, hekh, hkvh, by omega, fun j b hj => hgh.2.2.2.2.1 _ _ _ hj⟩
  obtain ⟨hg, d', mc', ms', -, -, hcase, g1, g2, g3, g4, g5, g6, g7, g8, g9, g10, g11⟩ := hrow
  obtain ⟨hc1, r, hc2, hc3⟩ := hci
  obtain ⟨hf, ef⟩ : ∃ z, z = sI (sQ (sQf hg d' (va_cpy (hQ hg d') (hQ hg d') i (i + 1) (xs.length - i))) d' i (some v)) fA_size a (nI (xs.length + 1)) := ⟨_, rfl⟩
  have hfQ : hQ hf d' = va_up (va_cpy (hQ hg d') (hQ hg d') i (i + 1) (xs.length - i)) i (some v) := by
    rw [ef]
    show hQ (sQ (sQf hg d' (va_cpy (hQ hg d') (hQ hg d') i (i + 1) (xs.length - i))) d' i (some v)) d' = _
    rw [qQ_eq, qF_eq]
  have hfN : ∀ b, b ≠ d' → hQ hf b = hQ hg b := fun b hb => by
    rw [ef]
    show hQ (sQ (sQf hg d' (va_cpy (hQ hg d') (hQ hg d') i (i + 1) (xs.length - i))) d' i (some v)) b = _
    rw [qQ_ne hb, qF_ne hb]
  have hfI1 : ∀ f, f ≠ fA_size → hI hf f = hI hg f := fun f q => by rw [ef]; exact iI_ne q
  have hfI2 : ∀ f b, b ≠ a → hI hf f b = hI hg f b := fun f b q => by rw [ef]; exact iI_nb q
  have hfS : hI hf fA_size a = nI (xs.length + 1) := by rw [ef]; exact iI_at
  have hfo : hN hf = hN hg ∧ hK hf = hK hg ∧ hL hf = hL hg ∧ hR hf = hR hg ∧ hA hf = hA hg ∧ hW hf = hW hg := by rw [ef]; exact ⟨rfl, rfl, rfl, rfl, rfl, rfl⟩
  have hlen : (xs.take i ++ v :: xs.drop i).length = xs.length + 1 := by simp; omega
  have hQC : QC hf d' := fun j b hj => by
    rw [hfQ] at hj
    rw [hfo.1]
    by_cases c : j = i
    · rw [c, va_up_self] at hj; cases hj; exact g10
    · rw [va_up_ne _ _ c] at hj
      unfold va_cpy at hj
      split at hj
      · exact g11 _ _ hj
      · exact g11 _ _ hj
  have hALf : AL hf a d' (xs.take i ++ v :: xs.drop i) := ⟨by rw [hfo.2.1]; exact g1, by rw [hfS, hlen], by rw [hfo.2.2.2.1]; exact g4, by rw [hlen]; omega, Or.inr ⟨g3, by rw [hfo.2.1]; exact g2, by rw [hlen, hfo.2.2.1]; omega, by rw [hfo.2.2.1]; exact g6, ins_get hi g7 hfQ⟩⟩
  suffices hb : MRw l G yJx4a65c_add_7a177 (.code yJx4a65c_add_7a177 cJx4a65c_add_7a177 5 none) 6 1 60 [.ref a, .int (nI i), .ref v] h (.inl (none, hf)) ∧ ALf h hf a d d' from ⟨hf, d', hb.1, hALf, hb.2, gd_AL hg0 hkn.2 hALf hb.2 hQC⟩
  refine ⟨?_, ?_⟩
  · have hsz : hI hh fA_size a = nI xs.length := hAL0.2.1
    have hdat : hR hh fA_elementData a = some d := hAL0.2.2.1
    refine mr_of (by decide +kernel) (Nat.le_of_ble_eq_true rfl) (ct3 (by first | rfl | exact isR_cat (isR_rf _)) (by first | rfl | exact isR_cat (isR_rf _)) (by first | rfl | exact isR_cat (isR_rf _))) (fun X hG hl C E => ?_)
    subst hG hl
    have hgo : ∀ k n, k ≤ 1 → n ≤ 60 → wr X k n 38 [.ref a, .int (nI i), .ref v, .int (nI xs.length), .ref d'] [] hg := by
      intro k n hk9 hn9
      refine r_aload (i := 4) C dJx4a65c_add_7a177_38 rfl (by first | rfl | exact isR_rf _) ?_
      refine r_iload_n (i := 1) C dJx4a65c_add_7a177_40 rfl rfl ?_
      refine r_aload (i := 4) C dJx4a65c_add_7a177_41 rfl (by first | rfl | exact isR_rf _) ?_
      refine r_iload_n (i := 1) C dJx4a65c_add_7a177_43 rfl rfl ?_
      refine r_iconst (v := 1) C dJx4a65c_add_7a177_44 (by decide) ?_
      refine r_iadd C dJx4a65c_add_7a177_45 ?_
      rw [nI_1]
      refine r_iload_n (i := 3) C dJx4a65c_add_7a177_46 rfl rfl ?_
      refine r_iload_n (i := 1) C dJx4a65c_add_7a177_47 rfl rfl ?_
      refine r_isub C dJx4a65c_add_7a177_48 ?_
      rw [pk_sub hi]
      refine r_acopy (ci := ci) (i0 := i) (i1 := i + 1) (ln := xs.length - i) C dJx4a65c_add_7a177_49 g2 g2 rfl rfl rfl (by omega) (by omega) hc1 hc2 hc3 (fun j hj z hz => ?_) (by omega) rfl (Nat.le_of_ble_eq_true rfl) l_Jx4a65c_112 w_acN w_acS w_sysI ?_
      · have hlt : i + j < xs.length := by omega
        have := g7 (i + j) _ (List.getElem?_eq_getElem hlt)
        rw [hz] at this
        cases this
        exact g8 _ (List.getElem_mem _)
      · refine r_aload (i := 4) C dJx4a65c_add_7a177_52 rfl (by first | rfl | exact isR_rf _) ?_
        refine r_iload_n (i := 1) C dJx4a65c_add_7a177_54 rfl rfl ?_
        refine r_aload_n (i := 2) C dJx4a65c_add_7a177_55 rfl rfl (by first | rfl | exact isR_rf _) ?_
        refine r_aastO C dJx4a65c_add_7a177_56 (show hK (sQf hg d' _) d' = 103 from g2) rfl (show i < hL hg d' by omega) (show hK (sQf hg d' _) v = ci from g9) hc1 hc2 hc3 ?_
        refine r_aload_n (i := 0) C dJx4a65c_add_7a177_57 rfl rfl (by first | rfl | exact isR_rf _) ?_
        refine r_iload_n (i := 3) C dJx4a65c_add_7a177_58 rfl rfl ?_
        refine r_iconst (v := 1) C dJx4a65c_add_7a177_59 (by decide) ?_
        refine r_iadd C dJx4a65c_add_7a177_60 ?_
        rw [nI_1]
        refine r_putI C f_Jx4a65c_48 dJx4a65c_add_7a177_61 rfl rfl rfl g1 ?_
        rw [ef] at E
        exact r_vret C E dJx4a65c_add_7a177_64 rfl (by first | exact Nat.le_refl _ | exact Nat.le_of_ble_eq_true rfl | omega) (by first | exact Nat.le_refl _ | exact Nat.le_of_ble_eq_true rfl | omega)
    refine r_aload_n (i := 0) C dJx4a65c_add_7a177_0 rfl rfl (by first | rfl | exact isR_rf _) ?_
    refine r_iload_n (i := 1) C dJx4a65c_add_7a177_1 rfl rfl ?_
    refine r_callVn C v_Jx4a65c_135 (c_rangeAdd _ _ hAL9 hi) dJx4a65c_add_7a177_2 (by assumption) (ci := 0) (by decide) rfl rfl (As := [_]) rfl rfl rfl (by first | exact Nat.le_refl _ | exact Nat.le_of_ble_eq_true rfl | omega) (Nat.le_of_ble_eq_true rfl) (by first | exact Nat.le_refl _ | exact Nat.le_of_ble_eq_true rfl | omega) (by first | exact Nat.le_refl _ | exact Nat.le_of_ble_eq_true rfl | omega) ?_
    refine r_aload_n (i := 0) C dJx4a65c_add_7a177_5 rfl rfl (by first | rfl | exact isR_rf _) ?_
    refine r_dup C (by first | rfl | exact isR_cat (isR_rf _)) dJx4a65c_add_7a177_6 ?_
    refine r_getI C f_Jx4a65c_63 dJx4a65c_add_7a177_7 rfl (by assumption) ?_
    refine r_iconst (v := 1) C dJx4a65c_add_7a177_10 (by decide) ?_
    refine r_iadd C dJx4a65c_add_7a177_11 ?_
    refine r_putI C f_Jx4a65c_63 dJx4a65c_add_7a177_12 rfl rfl rfl (by assumption) ?_
    rw [← eh]
    have hkh : hK hh a = 0 := hAL0.1
    refine r_aload_n (i := 0) C dJx4a65c_add_7a177_15 rfl rfl (by first | rfl | exact isR_rf _) ?_
    refine r_getI C f_Jx4a65c_48 dJx4a65c_add_7a177_16 rfl (by assumption) ?_
    rw [hsz]
    refine r_dup C (by first | rfl | exact isR_cat (isR_rf _)) dJx4a65c_add_7a177_19 ?_
    refine r_istore_n (i := 3) C dJx4a65c_add_7a177_20 rfl (Nat.le_of_ble_eq_true rfl) ?_
    refine r_aload_n (i := 0) C dJx4a65c_add_7a177_21 rfl rfl (by first | rfl | exact isR_rf _) ?_
    refine r_getR C f_Jx4a65c_9 dJx4a65c_add_7a177_22 rfl (by assumption) ?_
    rw [hdat]
    refine r_dup C (by first | rfl | exact isR_cat (isR_rf _)) dJx4a65c_add_7a177_25 ?_
    refine r_astore (i := 4) C dJx4a65c_add_7a177_26 (Nat.le_of_ble_eq_true rfl) (by first | rfl | exact isR_rf _) ?_
    rcases hcase with ⟨rfl, rfl, hd4, hnf⟩ | ⟨rfl, P, hfull, M⟩
    · have hdk : hK hg d' = 103 := g2
      refine r_alen C dJx4a65c_add_7a177_28 g2 (by decide) ?_
      refine rn_ic_ne C xs.length (hL hg d') rfl rfl (by omega) (by omega) (tgt := 38) dJx4a65c_add_7a177_29 (by decide) (fun _ => ?_) (fun c_29 => absurd c_29.symm hnf)
      exact hgo _ _ (by omega) (by omega)
    · have hgr : wr X (0 + 0) (0 + 0) 32 [.ref a, .int (nI i), .ref v, .int (nI xs.length), .ref d] [] hh := by
        refine r_aload_n (i := 0) C dJx4a65c_add_7a177_32 rfl rfl (by first | rfl | exact isR_rf _) ?_
        refine r_callVs C v_Jx4a65c_129 M dJx4a65c_add_7a177_33 (by assumption) (ci := 0) (by decide) rfl rfl (As := []) rfl rfl rfl (by first | exact Nat.le_refl _ | exact Nat.le_of_ble_eq_true rfl | omega) (Nat.le_of_ble_eq_true rfl) (by first | exact Nat.le_refl _ | exact Nat.le_of_ble_eq_true rfl | omega) (by first | exact Nat.le_refl _ | exact Nat.le_of_ble_eq_true rfl | omega) ?_
        refine r_astore (i := 4) C dJx4a65c_add_7a177_36 (Nat.le_of_ble_eq_true rfl) (by first | rfl | exact isR_rf _) ?_
        exact hgo _ _ (by omega) (by omega)
      have hAL1 := hAL0
      obtain ⟨h1, h2, h3, h4, h5⟩ := hAL1
      rcases h5 with ⟨rfl, rfl⟩ | ⟨q0, q1, q2, q3, q4⟩
      · refine r_elen C dJx4a65c_add_7a177_28 ?_
        refine r_ic_ne (tgt := 38) C dJx4a65c_add_7a177_29 (by decide) (fun c_29 => ?_) (fun c_29 => ?_)
        · exact absurd rfl c_29
        · exact hgr
      · refine r_alen C dJx4a65c_add_7a177_28 q1 (by decide) ?_
        rw [hfull (by omega)]
        refine r_ic_ne (tgt := 38) C dJx4a65c_add_7a177_29 (by decide) (fun c_29 => ?_) (fun c_29 => ?_)
        · exact absurd rfl c_29
        · exact hgr
  · rcases hcase with ⟨rfl, rfl, hd4, hnf⟩ | ⟨rfl, P, hfull, M⟩
    · refine ALf_mod (w := hI h fA_modCount a + 1) ?_
      rw [← eh]
      exact ⟨Or.inl ⟨rfl, hfo.1, hfo.2.1, hfo.2.2.1⟩, fun f _ h2 => hfI1 f h2, hfI2, fun f _ => congrFun hfo.2.2.2.1 f, fun f b _ => congrFun (congrFun hfo.2.2.2.1 f) b, hfo.2.2.2.2.1, hfo.2.2.2.2.2, hfN⟩
    · refine ALf_mod (w := hI h fA_modCount a + 1) ?_
      rw [← eh]
      obtain ⟨p1, p2, p3, p4, p5, ⟨m, p6, ⟨p7, -, -⟩, p8⟩, p9, p10, p11, p12⟩ := P
      refine ⟨Or.inr ⟨rfl, hfo.1.trans p4, hfo.2.1.trans p5, m, p6, hfo.2.2.1.trans p8⟩, fun f _ h2 => (hfI1 f h2).trans (congrFun p1 f), fun f b hb => (hfI2 f b hb).trans (congrFun (congrFun p1 f) b), fun f hf9 => ?_, fun f b hb => ?_, hfo.2.2.2.2.1.trans p2, hfo.2.2.2.2.2.trans p3, fun b hb => (hfN b hb).trans (p10 b hb)⟩
      · rw [hfo.2.2.2.1, p9, va_up_ne _ _ hf9]
      · rw [hfo.2.2.2.1, p9]
        by_cases e : f = fA_elementData
        · subst e
          rw [va_up_self, va_up_ne _ _ hb]
        · rw [va_up_ne _ _ e]
/-! remove(i), clear(), the constructor -/
theorem rem_get {xs : List Nat} {i : Nat} (hi : i < xs.length) {q g : Nat → Option Nat} (hq : ∀ (j x : Nat), xs[j]? = some x → q j = some x) (hg : ∀ j, j < xs.length - 1 → g j = va_cpy q q (i + 1) i (xs.length - 1 - i) j) :
    ∀ (j x : Nat), (xs.eraseIdx i)[j]? = some x → g j = some x := by
  intro j x hj
  have hl : (xs.eraseIdx i).length = xs.length - 1 := List.length_eraseIdx_of_lt hi
  have hjl := (List.getElem?_eq_some_iff.mp hj).1
  rw [hl] at hjl
  rw [hg j hjl]
  rw [List.getElem?_eraseIdx] at hj
  by_cases c : j < i
  · rw [if_pos c] at hj
    rw [pk_cpy_out (by omega)]
    exact hq j x hj
  · rw [if_neg c] at hj
    rw [pk_cpy_in (by omega) (by omega), show i + 1 + (j - i) = j + 1 by omega]
    exact hq _ x hj
theorem c_fastRemove (l : Launch) (G : Gl) {h : Hp} {a d ci i : Nat} {xs : List Nat} (hg0 : Good h) (hAL : AL h a d xs) (hi : i < xs.length) (hci : LK ci) (hek : ∀ x ∈ xs, hK h x = ci) :
    ∃ h' : Hp, MRw l G yJx4a65c_fastRemove_b59b0 (.code yJx4a65c_fastRemove_b59b0 cJx4a65c_fastRemove_b59b0 4 none) 1 0 0 [.ref a, .ref d, .int (nI i)] h (.inl (none, h')) ∧ AL h' a d (xs.eraseIdx i) ∧ ALf h h' a d d ∧ Good h' := by
  have hAL1 := hAL
  obtain ⟨hk, h1, h2, h3, h4⟩ := hAL1
  rcases h4 with ⟨-, rfl⟩ | ⟨q0, q1, q2, q3, q4⟩
  · cases hi
  obtain ⟨hc1, r, hc2, hc3⟩ := hci
  obtain ⟨hh, eh⟩ : ∃ z, z = sI h fA_modCount a (hI h fA_modCount a + 1) := ⟨_, rfl⟩
  have hlen : (xs.eraseIdx i).length = xs.length - 1 := List.length_eraseIdx_of_lt hi
  have hsz : hI hh fA_size a = nI xs.length := by rw [eh]; exact (congrFun (iI_ne (by decide)) a).trans h1
  have hnm : nI xs.length - 1 = nI (xs.length - 1) := pk_sub (b := 1) (by omega)
  -- the copied row
  obtain ⟨hg, eg⟩ : ∃ z, z = if xs.length - 1 ≤ i then hh else sQf hh d (va_cpy (hQ hh d) (hQ hh d) (i + 1) i (xs.length - 1 - i)) := ⟨_, rfl⟩
  have hgo : hN hg = hN h ∧ hK hg = hK h ∧ hL hg = hL h ∧ hR hg = hR h ∧ hA hg = hA h ∧ hW hg = hW h ∧ hI hg = hI hh := by
    rw [eg, eh]
    split <;> exact ⟨rfl, rfl, rfl, rfl, rfl, rfl, rfl⟩
  have hgQ : ∀ j, j < xs.length - 1 → hQ hg d j = va_cpy (hQ h d) (hQ h d) (i + 1) i (xs.length - 1 - i) j := by
    intro j hj
    rw [eg, eh]
    by_cases c : xs.length - 1 ≤ i
    · rw [if_pos c, show xs.length - 1 - i = 0 by omega, pk_cpy_out (by omega)]
      rfl
    · rw [if_neg c, qF_eq]
      rfl
  have hgN : ∀ b, b ≠ d → hQ hg b = hQ h b := by
    intro b hb
    rw [eg, eh]
    split
    · rfl
    · rw [qF_ne hb]; rfl
  obtain ⟨hf, ef⟩ : ∃ z, z = sQ (sI hg fA_size a (nI (xs.length - 1))) d (xs.length - 1) none := ⟨_, rfl⟩
  have hfo : hN hf = hN h ∧ hK hf = hK h ∧ hL hf = hL h ∧ hR hf = hR h ∧ hA hf = hA h ∧ hW hf = hW h := by
    rw [ef]
    exact ⟨hgo.1, hgo.2.1, hgo.2.2.1, hgo.2.2.2.1, hgo.2.2.2.2.1, hgo.2.2.2.2.2.1⟩
  have hfI1 : ∀ f, f ≠ fA_modCount → f ≠ fA_size → hI hf f = hI h f := fun f g1 g2 => by
    rw [ef]
    show hI (sI hg fA_size a (nI (xs.length - 1))) f = _
    rw [iI_ne g2, hgo.2.2.2.2.2.2, eh, iI_ne g1]
  have hfI2 : ∀ f b, b ≠ a → hI hf f b = hI h f b := fun f b q => by
    rw [ef]
    show hI (sI hg fA_size a (nI (xs.length - 1))) f b = _
    rw [iI_nb q, hgo.2.2.2.2.2.2, eh, iI_nb q]
  have hfS : hI hf fA_size a = nI (xs.length - 1) := by rw [ef]; exact (iI_at : hI (sI hg fA_size a (nI (xs.length - 1))) fA_size a = _)
  have hfQ : ∀ j, j < xs.length - 1 → hQ hf d j = va_cpy (hQ h d) (hQ h d) (i + 1) i (xs.length - 1 - i) j := fun j hj => by
    rw [ef, qQ_eq, va_up_ne _ _ (by omega)]
    exact hgQ j hj
  have hfN : ∀ b, b ≠ d → hQ hf b = hQ h b := fun b hb => by
    rw [ef, qQ_ne hb]
    exact hgN b hb
  have hQC : QC hf d := fun j b hj => by
    rw [hfo.1]
    rw [ef, qQ_eq] at hj
    by_cases c : j = xs.length - 1
    · rw [c, va_up_self] at hj; cases hj
    · rw [va_up_ne _ _ c] at hj
      have hj2 : hQ hg d j = some b := hj
      rw [eg, eh] at hj2
      split at hj2
      · exact hg0.2.2.2.2.1 _ _ _ hj2
      · rw [qF_eq] at hj2
        unfold va_cpy at hj2
        split at hj2
        · exact hg0.2.2.2.2.1 _ _ _ hj2
        · exact hg0.2.2.2.2.1 _ _ _ hj2
  have hAf : AL hf a d (xs.eraseIdx i) := ⟨by rw [hfo.2.1]; exact hk, by rw [hfS, hlen], by rw [hfo.2.2.2.1]; exact h2, by rw [hlen]; omega, Or.inr ⟨q0, by rw [hfo.2.1]; exact q1, by rw [hlen, hfo.2.2.1]; omega, by rw [hfo.2.2.1]; exact q3, rem_get hi q4 hfQ⟩⟩
  have hFf : ALf h hf a d d := ⟨Or.inl ⟨rfl, hfo.1, hfo.2.1, hfo.2.2.1⟩, hfI1, hfI2, fun f _ => congrFun hfo.2.2.2.1 f, fun f b _ => congrFun (congrFun hfo.2.2.2.1 f) b, hfo.2.2.2.2.1, hfo.2.2.2.2.2, hfN⟩
  refine ⟨hf, ?_, hAf, hFf, gd_AL hg0 (kind_in hg0 hk (by decide)).2 hAf hFf hQC⟩
  have hk1 : hK hh a = 0 := by rw [eh]; exact hk
  have hd1 : hK hh d = 103 := by rw [eh]; exact q1
  have hl1 : hL hh d = hL h d := by rw [eh]; rfl
  have hq1 : hQ hh d = hQ h d := by rw [eh]; rfl
  have hkg : hK hg a = 0 := by rw [hgo.2.1]; exact hk
  have hdg : hK hg d = 103 := by rw [hgo.2.1]; exact q1
  refine mr_of (by decide +kernel) (Nat.le_of_ble_eq_true rfl) (ct3 (by first | rfl | exact isR_cat (isR_rf _)) (by first | rfl | exact isR_cat (isR_rf _)) (by first | rfl | exact isR_cat (isR_rf _))) (fun X hG hl C E => ?_)
  subst hG hl
  have hend : wr X 0 0 34 [.ref a, .ref d, .int (nI i), .int (nI (xs.length - 1))] [] hg := by
    refine r_aload_n (i := 1) C dJx4a65c_fastRemove_b59b0_34 rfl rfl (by first | rfl | exact isR_rf _) ?_
    refine r_aload_n (i := 0) C dJx4a65c_fastRemove_b59b0_35 rfl rfl (by first | rfl | exact isR_rf _) ?_
    refine r_iload_n (i := 3) C dJx4a65c_fastRemove_b59b0_36 rfl rfl ?_
    refine r_dup_x1 C (by first | rfl | exact isR_cat (isR_rf _)) (by first | rfl | exact isR_cat (isR_rf _)) dJx4a65c_fastRemove_b59b0_37 ?_
    refine r_putI C f_Jx4a65c_48 dJx4a65c_fastRemove_b59b0_38 rfl rfl rfl (by assumption) ?_
    refine r_null C dJx4a65c_fastRemove_b59b0_41 ?_
    refine r_aastN (q := 0) C dJx4a65c_fastRemove_b59b0_42 hdg (by decide) rfl (show xs.length - 1 < hL hg d by rw [hgo.2.2.1]; omega) ?_
    rw [ef] at E
    exact r_vret C E dJx4a65c_fastRemove_b59b0_43 rfl (by first | exact Nat.le_refl _ | exact Nat.le_of_ble_eq_true rfl | omega) (by first | exact Nat.le_refl _ | exact Nat.le_of_ble_eq_true rfl | omega)
  refine r_aload_n (i := 0) C dJx4a65c_fastRemove_b59b0_0 rfl rfl (by first | rfl | exact isR_rf _) ?_
  refine r_dup C (by first | rfl | exact isR_cat (isR_rf _)) dJx4a65c_fastRemove_b59b0_1 ?_
  refine r_getI C f_Jx4a65c_63 dJx4a65c_fastRemove_b59b0_2 rfl (by assumption) ?_
  refine r_iconst (v := 1) C dJx4a65c_fastRemove_b59b0_5 (by decide) ?_
  refine r_iadd C dJx4a65c_fastRemove_b59b0_6 ?_
  refine r_putI C f_Jx4a65c_63 dJx4a65c_fastRemove_b59b0_7 rfl rfl rfl (by assumption) ?_
  rw [← eh]
  refine r_aload_n (i := 0) C dJx4a65c_fastRemove_b59b0_10 rfl rfl (by first | rfl | exact isR_rf _) ?_
  refine r_getI C f_Jx4a65c_48 dJx4a65c_fastRemove_b59b0_11 rfl (by assumption) ?_
  rw [hsz]
  refine r_iconst (v := 1) C dJx4a65c_fastRemove_b59b0_14 (by decide) ?_
  refine r_isub C dJx4a65c_fastRemove_b59b0_15 ?_
  rw [hnm]
  refine r_dup C (by first | rfl | exact isR_cat (isR_rf _)) dJx4a65c_fastRemove_b59b0_16 ?_
  refine r_istore_n (i := 3) C dJx4a65c_fastRemove_b59b0_17 rfl (Nat.le_of_ble_eq_true rfl) ?_
  refine r_iload_n (i := 2) C dJx4a65c_fastRemove_b59b0_18 rfl rfl ?_
  refine rn_ic_le C (xs.length - 1) i rfl rfl (by omega) (by omega) (tgt := 34) dJx4a65c_fastRemove_b59b0_19 (by decide) (fun c_19 => ?_) (fun c_19 => ?_)
  · rw [if_pos c_19] at eg
    subst eg
    exact hend
  · rw [if_neg (by omega)] at eg
    refine r_aload_n (i := 1) C dJx4a65c_fastRemove_b59b0_22 rfl rfl (by first | rfl | exact isR_rf _) ?_
    refine r_iload_n (i := 2) C dJx4a65c_fastRemove_b59b0_23 rfl rfl ?_
    refine r_iconst (v := 1) C dJx4a65c_fastRemove_b59b0_24 (by decide) ?_
    refine r_iadd C dJx4a65c_fastRemove_b59b0_25 ?_
    rw [nI_1]
    refine r_aload_n (i := 1) C dJx4a65c_fastRemove_b59b0_26 rfl rfl (by first | rfl | exact isR_rf _) ?_
    refine r_iload_n (i := 2) C dJx4a65c_fastRemove_b59b0_27 rfl rfl ?_
    refine r_iload_n (i := 3) C dJx4a65c_fastRemove_b59b0_28 rfl rfl ?_
    refine r_iload_n (i := 2) C dJx4a65c_fastRemove_b59b0_29 rfl rfl ?_
    refine r_isub C dJx4a65c_fastRemove_b59b0_30 ?_
    rw [pk_sub (by omega)]
    refine r_acopy (ci := ci) (i0 := i + 1) (i1 := i) (ln := xs.length - 1 - i) C dJx4a65c_fastRemove_b59b0_31 hd1 hd1 rfl rfl rfl (by omega) (by omega) hc1 hc2 hc3 (fun j hj z hz => ?_) (by omega) rfl (Nat.le_of_ble_eq_true rfl) l_Jx4a65c_112 w_acN w_acS w_sysI ?_
    · have hlt : i + 1 + j < xs.length := by omega
      have := q4 (i + 1 + j) _ (List.getElem?_eq_getElem hlt)
      rw [hq1, this] at hz
      cases hz
      rw [eh]
      exact hek _ (List.getElem_mem _)
    · rw [← eg]
      exact hend
theorem c_remove (l : Launch) (G : Gl) {h : Hp} {a d ci i x : Nat} {xs : List Nat} (hg0 : Good h) (hAL : AL h a d xs) (hx : xs[i]? = some x) (hci : LK ci) (hek : ∀ x ∈ xs, hK h x = ci) :
    ∃ h' : Hp, MRw l G yJx4a65c_remove_915e3 (.code yJx4a65c_remove_915e3 cJx4a65c_remove_915e3 4 (Option.some (Jvm.ClassFile.FieldType.object "java/lang/Object"))) 3 0 0 [.ref a, .int (nI i)] h (.inl (some (.ref x), h')) ∧ AL h' a d (xs.eraseIdx i) ∧ ALf h h' a d d ∧ Good h' := by
  have hi := (List.getElem?_eq_some_iff.mp hx).1
  obtain ⟨h', M, P, F, Q⟩ := c_fastRemove l G hg0 hAL hi hci hek
  refine ⟨h', ?_, P, F, Q⟩
  have hk := hAL.1
  have hn := AL_len hAL
  have hAL1 := hAL
  obtain ⟨-, h1, h2, h3, h4⟩ := hAL1
  rcases h4 with ⟨-, rfl⟩ | ⟨q0, q1, q2, q3, q4⟩
  · cases hi
  have hqx := q4 i x hx
  refine mr_of (by decide +kernel) (Nat.le_of_ble_eq_true rfl) (ct2 (by first | rfl | exact isR_cat (isR_rf _)) (by first | rfl | exact isR_cat (isR_rf _))) (fun X hG hl C E => ?_)
  subst hG hl
  refine r_iload_n (i := 1) C dJx4a65c_remove_915e3_0 rfl rfl ?_
  refine r_aload_n (i := 0) C dJx4a65c_remove_915e3_1 rfl rfl (by first | rfl | exact isR_rf _) ?_
  refine r_getI C f_Jx4a65c_48 dJx4a65c_remove_915e3_2 rfl (by assumption) ?_
  rw [h1]
  refine r_callSs C s_Jx4a65c_118 (c_checkIndex _ _ hi hn) dJx4a65c_remove_915e3_5 (As := [_, _]) rfl rfl rfl (by first | exact Nat.le_refl _ | exact Nat.le_of_ble_eq_true rfl | omega) (Nat.le_of_ble_eq_true rfl) (by first | exact Nat.le_refl _ | exact Nat.le_of_ble_eq_true rfl | omega) (by first | exact Nat.le_refl _ | exact Nat.le_of_ble_eq_true rfl | omega) ?_
  refine r_pop C (by first | rfl | exact isR_cat (isR_rf _)) dJx4a65c_remove_915e3_8 ?_
  refine r_aload_n (i := 0) C dJx4a65c_remove_915e3_9 rfl rfl (by first | rfl | exact isR_rf _) ?_
  refine r_getR C f_Jx4a65c_9 dJx4a65c_remove_915e3_10 rfl (by assumption) ?_
  rw [h2]
  refine r_astore_n (i := 2) C dJx4a65c_remove_915e3_13 rfl (Nat.le_of_ble_eq_true rfl) (by first | rfl | exact isR_rf _) ?_
  refine r_aload_n (i := 2) C dJx4a65c_remove_915e3_14 rfl rfl (by first | rfl | exact isR_rf _) ?_
  refine r_iload_n (i := 1) C dJx4a65c_remove_915e3_15 rfl rfl ?_
  refine r_aald (q := 0) C dJx4a65c_remove_915e3_16 (by assumption) (by decide) rfl (by omega) ?_
  rw [hqx]
  refine r_astore_n (i := 3) C dJx4a65c_remove_915e3_17 rfl (Nat.le_of_ble_eq_true rfl) (by first | rfl | exact isR_rf _) ?_
  refine r_aload_n (i := 0) C dJx4a65c_remove_915e3_18 rfl rfl (by first | rfl | exact isR_rf _) ?_
  refine r_aload_n (i := 2) C dJx4a65c_remove_915e3_19 rfl rfl (by first | rfl | exact isR_rf _) ?_
  refine r_iload_n (i := 1) C dJx4a65c_remove_915e3_20 rfl rfl ?_
  refine r_callVn C v_Jx4a65c_144 M dJx4a65c_remove_915e3_21 (by assumption) (ci := 0) (by decide) rfl rfl (As := [_, _]) rfl rfl rfl (by first | exact Nat.le_refl _ | exact Nat.le_of_ble_eq_true rfl | omega) (Nat.le_of_ble_eq_true rfl) (by first | exact Nat.le_refl _ | exact Nat.le_of_ble_eq_true rfl | omega) (by first | exact Nat.le_refl _ | exact Nat.le_of_ble_eq_true rfl | omega) ?_
  refine r_aload_n (i := 3) C dJx4a65c_remove_915e3_24 rfl rfl (by first | rfl | exact isR_rf _) ?_
  first | exact r_aret (o := some _) C E dJx4a65c_remove_915e3_25 rfl rfl (by first | exact Nat.le_refl _ | exact Nat.le_of_ble_eq_true rfl | omega) (by first | exact Nat.le_refl _ | exact Nat.le_of_ble_eq_true rfl | omega) | exact r_aret (o := none) C E dJx4a65c_remove_915e3_25 rfl rfl (by first | exact Nat.le_refl _ | exact Nat.le_of_ble_eq_true rfl | omega) (by first | exact Nat.le_refl _ | exact Nat.le_of_ble_eq_true rfl | omega) | exact r_aret C E dJx4a65c_remove_915e3_25 rfl rfl (by first | exact Nat.le_refl _ | exact Nat.le_of_ble_eq_true rfl | omega) (by first | exact Nat.le_refl _ | exact Nat.le_of_ble_eq_true rfl | omega)
