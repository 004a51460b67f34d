/-! ===== Tree.append, the whole ===== -/
theorem lkA_I {h : Hp} {t e kp p f : Nat} {x1 x2 : Int32} (q1 : f ≠ fE_number) (q2 : f ≠ fE_tag) (q3 : f ≠ fE_classes) (q4 : f ≠ fE_words) (q5 : f ≠ fE_isContainer) (q6 : f ≠ fL_isKnown) (q7 : f ≠ fT_nextNumber) : hI (lkA h t e kp p x1 x2) f = hI h f := by
  unfold lkA
  rw [hI_sR, (lkB_s h (lkC h t e kp p x1 x2) e p).2.2.2.1]
  unfold lkC bgE
  rw [hI_sR, hI_sR, iI_ne q7, iI_ne q6, hI_sR, hI_sR, hI_sR, hI_sR, hI_sR, iI_ne q5, iI_ne q4, iI_ne q3, iI_ne q2, iI_ne q1]
theorem lkB_R {h g : Hp} {e p f : Nat} (q1 : f ≠ fE_first) (q2 : f ≠ fE_next) : hR (lkB h g e p) f = hR g f := by
  unfold lkB; split
  · exact rR_ne q1
  · exact rR_ne q2
theorem lkA_R {h : Hp} {t e kp p f : Nat} {x1 x2 : Int32} (q1 : f ≠ fE_parent) (q2 : f ≠ fE_ahead) (q3 : f ≠ fE_next) (q4 : f ≠ fE_first) (q5 : f ≠ fE_last) : hR (lkA h t e kp p x1 x2) f = hR h f := by
  unfold lkA
  rw [rR_ne q5, lkB_R q4 q3]
  unfold lkC bgE
  rw [rR_ne q2, rR_ne q1, hR_sI, hR_sI, rR_ne q5, rR_ne q4, rR_ne q3, rR_ne q2, rR_ne q1, hR_sI, hR_sI, hR_sI, hR_sI, hR_sI]
theorem app2 (l : Launch) (G : Gl) {h : Hp} {t e kp p R dR : Nat} {x1 x2 : Int32} {es : List Nat} (hg : Good h) (hkt : hK h t = 8) (hR1 : hR h fT_row t = some R) (hAR : AL h R dR es) (hx : es.length ≤ 39) (hes : ∀ x ∈ es, hK h x = 3)
    (hke : hK h e = 3) (hkp : hK h p = 3) (hkk : hR h fE_kept e = some kp) (hk4 : hK h kp = 4) (hpe : p ≠ e) (hq : ∀ q, hR h fE_last p = some q → hK h q = 3) :
    ∃ (h2 : Hp) (d2 : Nat), AL h2 R d2 (es ++ [e]) ∧ LF (lkA h t e kp p x1 x2) h2 R dR d2 ∧ Good h2 ∧ ∀ (X : Ctx), lOf X = l → gOf X = G → ∀ (mc ms k n : Nat), Cx X yX10_append cX10_append 5 (some (.object "CascadeHouse$Element")) [] 7 mc ms → k + 1 ≤ mc → n + 60 ≤ ms →
      Ex X mc ms (.inl (some (.ref e), h2)) → ∀ v4, wr X k n 39 [.ref t, .ref p, .int x1, .int x2, v4] [.ref e] h := by
  obtain ⟨a1, a2, a3, a4, a5, a6⟩ := lkA_s h t e kp p x1 x2
  have K1 : KP h (lkA h t e kp p x1 x2) := ⟨by rw [a1]; exact Nat.le_refl _, fun a _ => ⟨by rw [a2], by rw [a3]⟩⟩
  have g1 : Good (lkA h t e kp p x1 x2) := lkA_g hg (kind_in hg hkt (by decide)).2 (kind_in hg hke (by decide)).2 (kind_in hg hk4 (by decide)).2 (kind_in hg hkp (by decide)).2
  have A1 : AL (lkA h t e kp p x1 x2) R dR es := AL_KP hg K1 (by rw [lkA_I (by decide) (by decide) (by decide) (by decide) (by decide) (by decide) (by decide)]) (by rw [lkA_R (by decide) (by decide) (by decide) (by decide) (by decide)]) (fun _ => by rw [a5]) hAR
  obtain ⟨h2, d2, c, M, A2, F2, Q2, g2⟩ := c_add l G g1 A1 hx LK3 (fun x hxx => by rw [a2]; exact hes x hxx) (by rw [a2]; exact hke)
  have hc := AC_le Q2
  refine ⟨h2, d2, A2, LF_of F2, g2, fun X e1 e2 mc ms k n C hkc hnc E v4 => ?_⟩
  subst e1 e2
  have R1 : hR (lkA h t e kp p x1 x2) fT_row t = some R := by rw [lkA_R (by decide) (by decide) (by decide) (by decide) (by decide)]; exact hR1
  have hkR := A1.1
  refine app1 C (by omega) (by omega) hkt hke hkp hkk hk4 hpe hq ?_
  obtain ⟨h9, e9⟩ : ∃ z, z = lkA h t e kp p x1 x2 := ⟨_, rfl⟩
  rw [← e9] at M R1 hkR a2 ⊢
  have hkt9 : hK h9 t = 8 := by rw [a2]; exact hkt
  refine r_aload_n (i := 0) C dX10_append_110 rfl rfl (by first | rfl | exact isR_rf _) ?_
  refine r_getR C f_X10_10 dX10_append_111 rfl (by assumption) ?_
  rw [R1]
  refine r_aload (i := 4) C dX10_append_114 rfl (by first | rfl | exact isR_rf _) ?_
  refine r_callVs C v_X10_26 M dX10_append_116 (by assumption) (ci := 0) (by decide) rfl rfl (As := [_]) rfl rfl rfl (by first | exact Nat.le_refl _ | exact Nat.le_of_ble_eq_true rfl | omega) (Nat.le_of_ble_eq_true rfl) (by first | exact Nat.le_refl _ | exact Nat.le_of_ble_eq_true rfl | omega) (by first | exact Nat.le_refl _ | exact Nat.le_of_ble_eq_true rfl | omega) ?_
  refine r_pop C (by first | rfl | exact isR_cat (isR_rf _)) dX10_append_119 ?_
  refine r_aload (i := 4) C dX10_append_120 rfl (by first | rfl | exact isR_rf _) ?_
  exact r_aret (o := some e) C E dX10_append_122 rfl rfl (by omega) (by omega)
theorem neE_s (h : Hp) : hI (neE h) = hI h ∧ hA (neE h) = hA h ∧ hQ (neE h) = hQ h ∧ hW (neE h) = hW h := by
  unfold neE nlk
  simp only [hN_sI, hK_sI, hL_sI, hR_sI, hA_sI, hQ_sI, hW_sI, hN_sR, hK_sR, hL_sR, hI_sR, hA_sR, hQ_sR, hW_sR, hN_sA, hK_sA, hL_sA, hI_sA, hR_sA, hQ_sA, hW_sA, hN_sQ, hK_sQ, hL_sQ, hI_sQ, hR_sQ, hA_sQ, hW_sQ, hN_sQf, hK_sQf, hL_sQf, hI_sQf, hR_sQf, hA_sQf, hW_sQf, hN_sW, hK_sW, hL_sW, hI_sW, hR_sW, hA_sW, hQ_sW, hI_nw, hR_nw, hA_nw, hQ_nw, hW_nw, hN_nw]
  exact ⟨trivial, trivial, trivial, trivial⟩
theorem neE_R {h : Hp} {f : Nat} (q1 : f ≠ fL_values) (q2 : f ≠ fL_sources) (q3 : f ≠ fE_kept) (q4 : f ≠ fE_fresh) : hR (neE h) f = hR h f := by
  unfold neE nlk
  rw [rR_ne q4, rR_ne q2, hR_nw, rR_ne q1, hR_nw, hR_nw, rR_ne q3, rR_ne q2, hR_nw, rR_ne q1, hR_nw, hR_nw, hR_nw]
theorem K_neE (h : Hp) : hN h < hN (neE h) ∧ hK (neE h) (hN h) = 3 ∧ hK (neE h) (hN h + 1) = 4 ∧ hR (neE h) fE_kept (hN h) = some (hN h + 1) := by
  have k1 : KP (nw h 3 0) (neE h) := KP_sR (KP_t (KP_sR (KP_nlk _)) (KP_nlk _))
  have k2 : KP (nw (nw h 3 0) 4 0) (neE h) := KP_sR (KP_t (KP_sR (KP_sR (KP_t (KP_sR KP_nw) KP_nw))) (KP_nlk _))
  refine ⟨Nat.lt_of_lt_of_le (by rw [hN_nw]; omega) k1.1, ?_, ?_, ?_⟩
  · rw [(k1.2 (hN h) (by rw [hN_nw]; omega)).1, hK_nw, va_up_self]
  · rw [(k2.2 (hN h + 1) (by rw [hN_nw, hN_nw]; omega)).1, hK_nw, hN_nw, va_up_self]
  · unfold neE
    rw [rR_ne (by decide)]
    unfold nlk
    rw [rR_ne (by decide), hR_nw, rR_ne (by decide), hR_nw, hR_nw, rR_at]
/-- append: the element e, new or used again, is the last one of the row and the last child of p -/
theorem c_treeAppend (l : Launch) (G : Gl) {h : Hp} {t R I dR dI p : Nat} {x1 x2 : Int32} {es is : List Nat} (hg : Good h) (hkt : hK h t = 8) (hR1 : hR h fT_row t = some R) (hI1 : hR h fT_idle t = some I) (hAR : AL h R dR es) (hAI : AL h I dI is)
    (hRI : R ≠ I) (hdd : dR = dI → dR = 4) (hx : es.length ≤ 39) (hes : ∀ x ∈ es, hK h x = 3) (his : ∀ x ∈ is, EW h x) (hp : p ∈ es) (hpi : p ∉ is) (hq : ∀ q, hR h fE_last p = some q → hK h q = 3) :
    ∃ (h1 h2 : Hp) (e kp d2 : Nat), MRw l G yX10_append (.code yX10_append cX10_append 5 (Option.some (Jvm.ClassFile.FieldType.object "CascadeHouse$Element"))) 7 8 150 [.ref t, .ref p, .int x1, .int x2] h (.inl (some (.ref e), h2)) ∧
      ((is = [] ∧ h1 = neE h ∧ e = hN h ∧ kp = hN h + 1) ∨ (∃ is' : List Nat, is = is' ++ [e] ∧ AL h1 I dI is' ∧ LF h h1 I dI dI ∧ kp = kpt h e)) ∧ Good h1 ∧
      AL h2 R d2 (es ++ [e]) ∧ LF (lkA h1 t e kp p x1 x2) h2 R dR d2 ∧ Good h2 := by
  have hkI := hAI.1
  have hszI := hAI.2.1
  have hkp := hes p hp
  rcases List.eq_nil_or_concat is with hnil | ⟨is', e, hcon⟩
  · subst hnil
    obtain ⟨n1, n2, n3, n4⟩ := K_neE h
    obtain ⟨s1, s2, s3, s4⟩ := neE_s h
    have g1 := gd_neE hg
    have K1 := KP_neE h
    have A1 : AL (neE h) R dR es := AL_KP hg K1 (by rw [s1]) (by rw [neE_R (by decide) (by decide) (by decide) (by decide)]) (fun _ => by rw [s3]) hAR
    obtain ⟨h2, d2, A2, F2, g2, W⟩ := app2 l G (x1 := x1) (x2 := x2) (p := p) g1 (KP_k hg K1 hkt (by decide)) (by rw [neE_R (by decide) (by decide) (by decide) (by decide)]; exact hR1) A1 hx (fun x hxx => KP_k hg K1 (hes x hxx) (by decide)) n2 (KP_k hg K1 hkp (by decide)) n4 n3 (by have := (kind_in hg hkp (by decide)).2; omega) (fun q hqq => KP_k hg K1 (hq q (by rw [neE_R (by decide) (by decide) (by decide) (by decide)] at hqq; exact hqq)) (by decide))
    refine ⟨neE h, h2, hN h, hN h + 1, d2, ?_, Or.inl ⟨rfl, rfl, rfl, rfl⟩, g1, A2, F2, g2⟩
    refine mr_of (by decide +kernel) (Nat.le_of_ble_eq_true rfl) (ct4 (by first | rfl | exact isR_cat (isR_rf _)) (by first | rfl | exact isR_cat (isR_rf _)) (by first | rfl | exact isR_cat (isR_rf _)) (by first | rfl | exact isR_cat (isR_rf _))) (fun X hG hl C E => ?_)
    subst hG hl
    refine r_aload_n (i := 0) C dX10_append_0 rfl rfl (by first | rfl | exact isR_rf _) ?_
    refine r_getR C f_X10_16 dX10_append_1 rfl (by assumption) ?_
    rw [hI1]
    refine r_callVs C v_X10_45 (c_isEmpty _ _ hkI) dX10_append_4 (by assumption) (ci := 0) (by decide) rfl rfl (As := []) rfl rfl rfl (by first | exact Nat.le_refl _ | exact Nat.le_of_ble_eq_true rfl | omega) (Nat.le_of_ble_eq_true rfl) (by first | exact Nat.le_refl _ | exact Nat.le_of_ble_eq_true rfl | omega) (by first | exact Nat.le_refl _ | exact Nat.le_of_ble_eq_true rfl | omega) ?_
    rw [show (if hI h fA_size I = 0 then (1 : Int32) else 0) = 1 from if_pos hszI]
    refine r_if_eq (tgt := 20) C dX10_append_7 (by decide) (fun c_7 => ?_) (fun c_7 => ?_)
    · exact absurd c_7 (by decide)
    · refine r_new C n_X10_19 dX10_append_10 (by first | exact Nat.le_refl _ | exact Nat.le_of_ble_eq_true rfl | omega) (by first | exact Nat.le_refl _ | exact Nat.le_of_ble_eq_true rfl | omega) ?_
      refine r_dup C (by first | rfl | exact isR_cat (isR_rf _)) dX10_append_13 ?_
      refine r_callN C i_X10_21 (c_elemInit _ _ (h := nw h 3 0) (e := hN h) (by rw [hK_nw, va_up_self]) (by rw [hN_nw]; omega)) dX10_append_14 (As := []) rfl rfl rfl (by first | exact Nat.le_refl _ | exact Nat.le_of_ble_eq_true rfl | omega) (Nat.le_of_ble_eq_true rfl) (by first | exact Nat.le_refl _ | exact Nat.le_of_ble_eq_true rfl | omega) (by first | exact Nat.le_refl _ | exact Nat.le_of_ble_eq_true rfl | omega) ?_
      refine r_goto (tgt := 39) C dX10_append_17 (by decide) ?_
      exact W X rfl rfl _ _ _ _ C (by omega) (by omega) E _
  · rw [List.concat_eq_append] at hcon
    subst hcon
    have hlen : (is' ++ [e]).length = is'.length + 1 := by simp
    have hl40 := hAI.2.2.2.1
    have hei : (is' ++ [e])[is'.length]? = some e := by simp
    obtain ⟨h1, M1, A1', F1', g1⟩ := c_remove l G hg hAI hei LK3 (fun x hxx => (his x hxx).1)
    have F1 := LF_of F1'
    have hee : (is' ++ [e]).eraseIdx is'.length = is' := by
      have := flt_app is' [] e
      simpa using this
    rw [hee] at A1'
    have hEe := his e (by simp)
    have K1 := F1.1
    have rf : ∀ f, f ≠ fA_elementData → hR h1 f = hR h f := F1.2.2.2.2.1
    obtain ⟨h2, d2, A2, F2, g2, W⟩ := app2 l G (x1 := x1) (x2 := x2) (p := p) (kp := kpt h e) g1 (KP_k hg K1 hkt (by decide)) (by rw [rf _ (by decide)]; exact hR1) (LF_AL hg F1 hAR hRI hdd) hx (fun x hxx => KP_k hg K1 (hes x hxx) (by decide)) (KP_k hg K1 hEe.1 (by decide)) (KP_k hg K1 hkp (by decide)) (by rw [rf _ (by decide)]; exact hEe.2.2.2.1) (KP_k hg K1 hEe.2.2.2.2.1 (by decide)) (fun z => hpi (by rw [z]; simp)) (fun q hqq => KP_k hg K1 (hq q (by rw [rf _ (by decide)] at hqq; exact hqq)) (by decide))
    refine ⟨h1, h2, e, kpt h e, d2, ?_, Or.inr ⟨is', rfl, A1', F1, rfl⟩, g1, A2, F2, g2⟩
    have hne : ¬ hI h fA_size I = 0 := by rw [hszI]; exact nI_ne0 (by omega) (by omega)
    refine mr_of (by decide +kernel) (Nat.le_of_ble_eq_true rfl) (ct4 (by first | rfl | exact isR_cat (isR_rf _)) (by first | rfl | exact isR_cat (isR_rf _)) (by first | rfl | exact isR_cat (isR_rf _)) (by first | rfl | exact isR_cat (isR_rf _))) (fun X hG hl C E => ?_)
    subst hG hl
    refine r_aload_n (i := 0) C dX10_append_0 rfl rfl (by first | rfl | exact isR_rf _) ?_
    refine r_getR C f_X10_16 dX10_append_1 rfl (by assumption) ?_
    rw [hI1]
    refine r_callVs C v_X10_45 (c_isEmpty _ _ hkI) dX10_append_4 (by assumption) (ci := 0) (by decide) rfl rfl (As := []) rfl rfl rfl (by first | exact Nat.le_refl _ | exact Nat.le_of_ble_eq_true rfl | omega) (Nat.le_of_ble_eq_true rfl) (by first | exact Nat.le_refl _ | exact Nat.le_of_ble_eq_true rfl | omega) (by first | exact Nat.le_refl _ | exact Nat.le_of_ble_eq_true rfl | omega) ?_
    rw [if_neg hne]
    refine r_if_eq (tgt := 20) C dX10_append_7 (by decide) (fun c_7 => ?_) (fun c_7 => ?_)
    · refine r_aload_n (i := 0) C dX10_append_20 rfl rfl (by first | rfl | exact isR_rf _) ?_
      refine r_getR C f_X10_16 dX10_append_21 rfl (by assumption) ?_
      rw [hI1]
      refine r_aload_n (i := 0) C dX10_append_24 rfl rfl (by first | rfl | exact isR_rf _) ?_
      refine r_getR C f_X10_16 dX10_append_25 rfl (by assumption) ?_
      rw [hI1]
      refine r_callVs C v_X10_34 (c_size _ _ hkI) dX10_append_28 (by assumption) (ci := 0) (by decide) rfl rfl (As := []) rfl rfl rfl (by first | exact Nat.le_refl _ | exact Nat.le_of_ble_eq_true rfl | omega) (Nat.le_of_ble_eq_true rfl) (by first | exact Nat.le_refl _ | exact Nat.le_of_ble_eq_true rfl | omega) (by first | exact Nat.le_refl _ | exact Nat.le_of_ble_eq_true rfl | omega) ?_
      rw [hszI, hlen]
      refine r_iconst (v := 1) C dX10_append_31 (by decide) ?_
      refine r_isub C dX10_append_32 ?_
      rw [show (nI (is'.length + 1) - 1 : Int32) = nI is'.length from nI_pred _]
      refine r_callVs C v_X10_49 M1 dX10_append_33 (by assumption) (ci := 0) (by decide) rfl rfl (As := [_]) rfl rfl rfl (by first | exact Nat.le_refl _ | exact Nat.le_of_ble_eq_true rfl | omega) (Nat.le_of_ble_eq_true rfl) (by first | exact Nat.le_refl _ | exact Nat.le_of_ble_eq_true rfl | omega) (by first | exact Nat.le_refl _ | exact Nat.le_of_ble_eq_true rfl | omega) ?_
      refine r_cast (o := some _) (ci := 3) C dX10_append_36 c_X10_19 rfl (by decide) (by decide +kernel) (fun a q => by cases q; exact (KP_k hg K1 hEe.1 (by decide))) ?_
      exact W X rfl rfl _ _ _ _ C (by omega) (by omega) E _
    · exact absurd rfl c_7
