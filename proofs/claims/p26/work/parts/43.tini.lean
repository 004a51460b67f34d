/-! ===== Tree's constructor ===== -/
theorem nls_s (h : Hp) (a : Nat) : hN (nls h a) = hN h ∧ hK (nls h a) = hK h ∧ hL (nls h a) = hL h ∧ hA (nls h a) = hA h ∧ hQ (nls h a) = hQ h ∧ hW (nls h a) = hW h :=
  ⟨rfl, rfl, rfl, rfl, rfl, rfl⟩
theorem gd_nls {h : Hp} {a : Nat} (hg : Good h) (ha : a < hN h) : Good (nls h a) := by
  have g1 := gd_sI (f := fA_modCount) (v := 0) hg ha
  exact gd_sR (f := fA_elementData) (a := a) (v := some 4) g1 (by rw [hN_sI]; exact ha) (fun b z => by cases z; rw [hN_sI]; have := hg.1; omega)
/-- the tree with its two lists, empty -/
def tr0 (h : Hp) (t : Nat) : Hp := sR (nls (nw h 0 0) (hN h)) fT_row t (some (hN h))
def tr1 (h : Hp) (t : Nat) : Hp := sR (nls (nw (tr0 h t) 0 0) (hN h + 1)) fT_idle t (some (hN h + 1))
theorem tr0_N (h : Hp) (t : Nat) : hN (tr0 h t) = hN h + 1 := by unfold tr0; rw [hN_sR, (nls_s _ _).1, hN_nw]
theorem tr1_N (h : Hp) (t : Nat) : hN (tr1 h t) = hN h + 2 := by unfold tr1; rw [hN_sR, (nls_s _ _).1, hN_nw, tr0_N]
theorem tr0_K (h : Hp) (t : Nat) : hK (tr0 h t) = va_up (hK h) (hN h) 0 := by unfold tr0; rw [hK_sR, (nls_s _ _).2.1, hK_nw]
theorem tr1_K (h : Hp) (t : Nat) : hK (tr1 h t) = va_up (va_up (hK h) (hN h) 0) (hN h + 1) 0 := by unfold tr1; rw [hK_sR, (nls_s _ _).2.1, hK_nw, tr0_K, tr0_N]
theorem tr0_g {h : Hp} {t : Nat} (hg : Good h) (ht : t < hN h) : Good (tr0 h t) := by
  have g1 := gd_nls (a := hN h) (gd_nw (n := 0) (k := 0) hg rfl (by decide)) (by rw [hN_nw]; omega)
  exact gd_sR (f := fT_row) (a := t) (v := some (hN h)) g1 (by rw [(nls_s _ _).1, hN_nw]; omega) (fun b z => by cases z; rw [(nls_s _ _).1, hN_nw]; omega)
theorem tr1_g {h : Hp} {t : Nat} (hg : Good h) (ht : t < hN h) : Good (tr1 h t) := by
  have g1 := gd_nls (a := hN h + 1) (gd_nw (n := 0) (k := 0) (tr0_g hg ht) rfl (by decide)) (by rw [hN_nw, tr0_N]; omega)
  exact gd_sR (f := fT_idle) (a := t) (v := some (hN h + 1)) g1 (by rw [(nls_s _ _).1, hN_nw, tr0_N]; omega) (fun b z => by cases z; rw [(nls_s _ _).1, hN_nw, tr0_N]; omega)
theorem bgE_s (h : Hp) (e kp : Nat) (x0 x1 x2 : Int32) : hN (bgE h e kp x0 x1 x2) = hN h ∧ hK (bgE h e kp x0 x1 x2) = hK h ∧ hL (bgE h e kp x0 x1 x2) = hL h ∧ hA (bgE h e kp x0 x1 x2) = hA h ∧ hQ (bgE h e kp x0 x1 x2) = hQ h ∧ hW (bgE h e kp x0 x1 x2) = hW h := by
  unfold bgE
  simp only [hN_sI, hK_sI, hL_sI, hR_sI, hA_sI, hQ_sI, hW_sI, hN_sR, hK_sR, hL_sR, hI_sR, hA_sR, hQ_sR, hW_sR, hN_sA, hK_sA, hL_sA, hI_sA, hR_sA, hQ_sA, hW_sA, hN_sQ, hK_sQ, hL_sQ, hI_sQ, hR_sQ, hA_sQ, hW_sQ, hN_sQf, hK_sQf, hL_sQf, hI_sQf, hR_sQf, hA_sQf, hW_sQf, hN_sW, hK_sW, hL_sW, hI_sW, hR_sW, hA_sW, hQ_sW, hI_nw, hR_nw, hA_nw, hQ_nw, hW_nw, hN_nw]
  exact ⟨trivial, trivial, trivial, trivial, trivial, trivial⟩
theorem bgE_g {h : Hp} {e kp : Nat} {x0 x1 x2 : Int32} (hg : Good h) (he : e < hN h) (hkp : kp < hN h) : Good (bgE h e kp x0 x1 x2) := by
  unfold bgE
  have g1 := gd_sI (f := fE_number) (v := x0) hg he
  have g2 := gd_sI (f := fE_tag) (a := e) (v := x1) g1 (by simp only [hN_sI, hK_sI, hL_sI, hR_sI, hA_sI, hQ_sI, hW_sI, hN_sR, hK_sR, hL_sR, hI_sR, hA_sR, hQ_sR, hW_sR, hN_sA, hK_sA, hL_sA, hI_sA, hR_sA, hQ_sA, hW_sA, hN_sQ, hK_sQ, hL_sQ, hI_sQ, hR_sQ, hA_sQ, hW_sQ, hN_sQf, hK_sQf, hL_sQf, hI_sQf, hR_sQf, hA_sQf, hW_sQf, hN_sW, hK_sW, hL_sW, hI_sW, hR_sW, hA_sW, hQ_sW, hI_nw, hR_nw, hA_nw, hQ_nw, hW_nw, hN_nw]; exact he)
  have g3 := gd_sI (f := fE_classes) (a := e) (v := x2) g2 (by simp only [hN_sI, hK_sI, hL_sI, hR_sI, hA_sI, hQ_sI, hW_sI, hN_sR, hK_sR, hL_sR, hI_sR, hA_sR, hQ_sR, hW_sR, hN_sA, hK_sA, hL_sA, hI_sA, hR_sA, hQ_sA, hW_sA, hN_sQ, hK_sQ, hL_sQ, hI_sQ, hR_sQ, hA_sQ, hW_sQ, hN_sQf, hK_sQf, hL_sQf, hI_sQf, hR_sQf, hA_sQf, hW_sQf, hN_sW, hK_sW, hL_sW, hI_sW, hR_sW, hA_sW, hQ_sW, hI_nw, hR_nw, hA_nw, hQ_nw, hW_nw, hN_nw]; exact he)
  have g4 := gd_sI (f := fE_words) (a := e) (v := 0) g3 (by simp only [hN_sI, hK_sI, hL_sI, hR_sI, hA_sI, hQ_sI, hW_sI, hN_sR, hK_sR, hL_sR, hI_sR, hA_sR, hQ_sR, hW_sR, hN_sA, hK_sA, hL_sA, hI_sA, hR_sA, hQ_sA, hW_sA, hN_sQ, hK_sQ, hL_sQ, hI_sQ, hR_sQ, hA_sQ, hW_sQ, hN_sQf, hK_sQf, hL_sQf, hI_sQf, hR_sQf, hA_sQf, hW_sQf, hN_sW, hK_sW, hL_sW, hI_sW, hR_sW, hA_sW, hQ_sW, hI_nw, hR_nw, hA_nw, hQ_nw, hW_nw, hN_nw]; exact he)
  have g5 := gd_sI (f := fE_isContainer) (a := e) (v := 0) g4 (by simp only [hN_sI, hK_sI, hL_sI, hR_sI, hA_sI, hQ_sI, hW_sI, hN_sR, hK_sR, hL_sR, hI_sR, hA_sR, hQ_sR, hW_sR, hN_sA, hK_sA, hL_sA, hI_sA, hR_sA, hQ_sA, hW_sA, hN_sQ, hK_sQ, hL_sQ, hI_sQ, hR_sQ, hA_sQ, hW_sQ, hN_sQf, hK_sQf, hL_sQf, hI_sQf, hR_sQf, hA_sQf, hW_sQf, hN_sW, hK_sW, hL_sW, hI_sW, hR_sW, hA_sW, hQ_sW, hI_nw, hR_nw, hA_nw, hQ_nw, hW_nw, hN_nw]; exact he)
  have g6 := gd_sR (f := fE_parent) (a := e) (v := none) g5 (by simp only [hN_sI, hK_sI, hL_sI, hR_sI, hA_sI, hQ_sI, hW_sI, hN_sR, hK_sR, hL_sR, hI_sR, hA_sR, hQ_sR, hW_sR, hN_sA, hK_sA, hL_sA, hI_sA, hR_sA, hQ_sA, hW_sA, hN_sQ, hK_sQ, hL_sQ, hI_sQ, hR_sQ, hA_sQ, hW_sQ, hN_sQf, hK_sQf, hL_sQf, hI_sQf, hR_sQf, hA_sQf, hW_sQf, hN_sW, hK_sW, hL_sW, hI_sW, hR_sW, hA_sW, hQ_sW, hI_nw, hR_nw, hA_nw, hQ_nw, hW_nw, hN_nw]; exact he) (fun b z => nomatch z)
  have g7 := gd_sR (f := fE_ahead) (a := e) (v := none) g6 (by simp only [hN_sI, hK_sI, hL_sI, hR_sI, hA_sI, hQ_sI, hW_sI, hN_sR, hK_sR, hL_sR, hI_sR, hA_sR, hQ_sR, hW_sR, hN_sA, hK_sA, hL_sA, hI_sA, hR_sA, hQ_sA, hW_sA, hN_sQ, hK_sQ, hL_sQ, hI_sQ, hR_sQ, hA_sQ, hW_sQ, hN_sQf, hK_sQf, hL_sQf, hI_sQf, hR_sQf, hA_sQf, hW_sQf, hN_sW, hK_sW, hL_sW, hI_sW, hR_sW, hA_sW, hQ_sW, hI_nw, hR_nw, hA_nw, hQ_nw, hW_nw, hN_nw]; exact he) (fun b z => nomatch z)
  have g8 := gd_sR (f := fE_next) (a := e) (v := none) g7 (by simp only [hN_sI, hK_sI, hL_sI, hR_sI, hA_sI, hQ_sI, hW_sI, hN_sR, hK_sR, hL_sR, hI_sR, hA_sR, hQ_sR, hW_sR, hN_sA, hK_sA, hL_sA, hI_sA, hR_sA, hQ_sA, hW_sA, hN_sQ, hK_sQ, hL_sQ, hI_sQ, hR_sQ, hA_sQ, hW_sQ, hN_sQf, hK_sQf, hL_sQf, hI_sQf, hR_sQf, hA_sQf, hW_sQf, hN_sW, hK_sW, hL_sW, hI_sW, hR_sW, hA_sW, hQ_sW, hI_nw, hR_nw, hA_nw, hQ_nw, hW_nw, hN_nw]; exact he) (fun b z => nomatch z)
  have g9 := gd_sR (f := fE_first) (a := e) (v := none) g8 (by simp only [hN_sI, hK_sI, hL_sI, hR_sI, hA_sI, hQ_sI, hW_sI, hN_sR, hK_sR, hL_sR, hI_sR, hA_sR, hQ_sR, hW_sR, hN_sA, hK_sA, hL_sA, hI_sA, hR_sA, hQ_sA, hW_sA, hN_sQ, hK_sQ, hL_sQ, hI_sQ, hR_sQ, hA_sQ, hW_sQ, hN_sQf, hK_sQf, hL_sQf, hI_sQf, hR_sQf, hA_sQf, hW_sQf, hN_sW, hK_sW, hL_sW, hI_sW, hR_sW, hA_sW, hQ_sW, hI_nw, hR_nw, hA_nw, hQ_nw, hW_nw, hN_nw]; exact he) (fun b z => nomatch z)
  have g10 := gd_sR (f := fE_last) (a := e) (v := none) g9 (by simp only [hN_sI, hK_sI, hL_sI, hR_sI, hA_sI, hQ_sI, hW_sI, hN_sR, hK_sR, hL_sR, hI_sR, hA_sR, hQ_sR, hW_sR, hN_sA, hK_sA, hL_sA, hI_sA, hR_sA, hQ_sA, hW_sA, hN_sQ, hK_sQ, hL_sQ, hI_sQ, hR_sQ, hA_sQ, hW_sQ, hN_sQf, hK_sQf, hL_sQf, hI_sQf, hR_sQf, hA_sQf, hW_sQf, hN_sW, hK_sW, hL_sW, hI_sW, hR_sW, hA_sW, hQ_sW, hI_nw, hR_nw, hA_nw, hQ_nw, hW_nw, hN_nw]; exact he) (fun b z => nomatch z)
  exact gd_sI (f := fL_isKnown) (a := kp) (v := 0) g10 (by simp only [hN_sI, hK_sI, hL_sI, hR_sI, hA_sI, hQ_sI, hW_sI, hN_sR, hK_sR, hL_sR, hI_sR, hA_sR, hQ_sR, hW_sR, hN_sA, hK_sA, hL_sA, hI_sA, hR_sA, hQ_sA, hW_sA, hN_sQ, hK_sQ, hL_sQ, hI_sQ, hR_sQ, hA_sQ, hW_sQ, hN_sQf, hK_sQf, hL_sQf, hI_sQf, hR_sQf, hA_sQf, hW_sQf, hN_sW, hK_sW, hL_sW, hI_sW, hR_sW, hA_sW, hQ_sW, hI_nw, hR_nw, hA_nw, hQ_nw, hW_nw, hN_nw]; exact hkp)
theorem bgE_I {h : Hp} {e kp f : Nat} {x0 x1 x2 : Int32} (q1 : f ≠ fE_number) (q2 : f ≠ fE_tag) (q3 : f ≠ fE_classes) (q4 : f ≠ fE_words) (q5 : f ≠ fE_isContainer) (q6 : f ≠ fL_isKnown) : hI (bgE h e kp x0 x1 x2) f = hI h f := by
  unfold bgE
  rw [iI_ne q6, hI_sR, hI_sR, hI_sR, hI_sR, hI_sR, iI_ne q5, iI_ne q4, iI_ne q3, iI_ne q2, iI_ne q1]
theorem bgE_R {h : Hp} {e kp f : Nat} {x0 x1 x2 : Int32} (q1 : f ≠ fE_parent) (q2 : f ≠ fE_ahead) (q3 : f ≠ fE_next) (q4 : f ≠ fE_first) (q5 : f ≠ fE_last) : hR (bgE h e kp x0 x1 x2) f = hR h f := by
  unfold bgE
  rw [hR_sI, rR_ne q5, rR_ne q4, rR_ne q3, rR_ne q2, rR_ne q1, hR_sI, hR_sI, hR_sI, hR_sI, hR_sI]
/-- the tree as built, its root begun but not yet in the row -/
def tr2 (h : Hp) (t : Nat) : Hp := bgE (neE (tr1 h t)) (hN h + 2) (hN h + 3) 0 0 0
theorem c_treeInit (l : Launch) (G : Gl) {h : Hp} {t : Nat} (hg : Good h) (hk : hK h t = 8) :
    ∃ (h2 : Hp) (d2 : Nat), MRw l G yX10_init (.code yX10_init cX10_init 2 none) 7 10 156 [.ref t] h (.inl (none, sI h2 fT_nextNumber t 1)) ∧ AL h2 (hN h) d2 [hN h + 2] ∧ LF (tr2 h t) h2 (hN h) 4 d2 ∧ Good h2 := by
  have htN := (kind_in hg hk (by decide)).2
  have g1 := tr1_g hg htN
  have N1 := tr1_N h t
  have gn := gd_neE g1
  have Kn := KP_neE (tr1 h t)
  obtain ⟨n1, n2, n3, n4⟩ := K_neE (tr1 h t)
  rw [N1] at n1 n2 n3 n4
  obtain ⟨m1, m2, m3, m4⟩ := neE_s (tr1 h t)
  obtain ⟨b1, b2, b3, b4, b5, b6⟩ := bgE_s (neE (tr1 h t)) (hN h + 2) (hN h + 3) 0 0 0
  have g2 : Good (tr2 h t) := bgE_g gn n1 (kind_in gn n3 (by decide)).2
  have kR : hK (tr1 h t) (hN h) = 0 := by rw [tr1_K, va_up_ne _ _ (by omega), va_up_self]
  have kT : hK (tr1 h t) t = 8 := by rw [tr1_K, va_up_ne _ _ (by omega), va_up_ne _ _ (by omega)]; exact hk
  have kR2 : hK (tr2 h t) (hN h) = 0 := by unfold tr2; rw [b2]; exact KP_k g1 Kn kR (by decide)
  have kT2 : hK (tr2 h t) t = 8 := by unfold tr2; rw [b2]; exact KP_k g1 Kn kT (by decide)
  have kE2 : hK (tr2 h t) (hN h + 2) = 3 := by unfold tr2; rw [b2]; exact n2
  have sz : hI (tr2 h t) fA_size (hN h) = nI 0 := by
    unfold tr2
    rw [bgE_I (by decide) (by decide) (by decide) (by decide) (by decide) (by decide), m1]
    unfold tr1 nls
    rw [hI_sR, hI_sR, iI_ne (by decide), hI_nw]
    unfold tr0 nls
    rw [hI_sR, hI_sR, iI_ne (by decide), hI_nw]
    exact ((hg.2.2.1 (hN h) (Nat.le_refl _)).2.1 fA_size).1
  have dt : hR (tr2 h t) fA_elementData (hN h) = some 4 := by
    unfold tr2
    rw [bgE_R (by decide) (by decide) (by decide) (by decide) (by decide), neE_R (by decide) (by decide) (by decide) (by decide)]
    unfold tr1 nls
    rw [rR_ne (by decide), rR_nb (by omega), hR_sI, hR_nw]
    unfold tr0 nls
    rw [rR_ne (by decide), rR_at]
  have rw2 : hR (tr2 h t) fT_row t = some (hN h) := by
    unfold tr2
    rw [bgE_R (by decide) (by decide) (by decide) (by decide) (by decide), neE_R (by decide) (by decide) (by decide) (by decide)]
    unfold tr1 nls
    rw [rR_ne (by decide), rR_ne (by decide), hR_sI, hR_nw]
    unfold tr0
    rw [rR_at]
  have A2 : AL (tr2 h t) (hN h) 4 [] := ⟨kR2, sz, dt, by decide, Or.inl ⟨rfl, rfl⟩⟩
  obtain ⟨h2, d2, c, M, A3, F3, Q3, g3⟩ := c_add l G g2 A2 (by decide) LK3 (fun x hx => by cases hx) kE2
  have hc := AC_le Q3
  refine ⟨h2, d2, ?_, A3, LF_of F3, g3⟩
  have kT3 : hK h2 t = 8 := KP_k g2 (LF_of F3).1 kT2 (by decide)
  have kn1 : hK (tr0 h t) t = 8 := by rw [tr0_K, va_up_ne _ _ (by omega)]; exact hk
  have ek : hR (neE (tr1 h t)) fE_kept (hN h + 2) = some (hN h + 3) := n4
  have Me := c_elemInit l G (h := nw (tr1 h t) 3 0) (e := hN h + 2) (by rw [hK_nw, N1, va_up_self]) (by rw [hN_nw, N1]; omega)
  have ene : neE (tr1 h t) = sR (nlk (sR (nlk (nw (tr1 h t) 3 0)) fE_kept (hN h + 2) (some (hN (nw (tr1 h t) 3 0))))) fE_fresh (hN h + 2) (some (hN (nw (tr1 h t) 3 0) + 3)) := by
    unfold neE; rw [hN_nw, N1]
  rw [← ene] at Me
  have Mb := c_begin l G (e := hN h + 2) (kp := hN h + 3) (x0 := 0) (x1 := 0) (x2 := 0) n2 ek n3
  rw [show bgE (neE (tr1 h t)) (hN h + 2) (hN h + 3) 0 0 0 = tr2 h t from rfl] at Mb
  obtain ⟨h9, e9⟩ : ∃ z, z = tr2 h t := ⟨_, rfl⟩
  obtain ⟨h8, e8⟩ : ∃ z, z = neE (tr1 h t) := ⟨_, rfl⟩
  obtain ⟨h7, e7⟩ : ∃ z, z = tr1 h t := ⟨_, rfl⟩
  obtain ⟨h6, e6⟩ : ∃ z, z = tr0 h t := ⟨_, rfl⟩
  rw [← e9] at M Mb rw2 kT2 kR2
  rw [← e8] at Me Mb n2
  rw [← e7] at Me kT N1
  rw [← e6] at kn1
  refine mr_of (by decide +kernel) (Nat.le_of_ble_eq_true rfl) (ct1 (by first | rfl | exact isR_cat (isR_rf _))) (fun X hG hl C E => ?_)
  subst hG hl
  have hN9 : meth_nm X = "<init>" := cx_nm C
  refine r_aload_n (i := 0) C dX10_init_0 rfl rfl (by first | rfl | exact isR_rf _) ?_
  refine r_oinit C dX10_init_1 (by first | exact Nat.le_refl _ | exact Nat.le_of_ble_eq_true rfl | omega) rfl (by decide) l_X10_1 w_oiM w_oiC ?_
  refine r_aload_n (i := 0) C dX10_init_4 rfl rfl (by first | rfl | exact isR_rf _) ?_
  refine r_new C n_X10_7 dX10_init_5 (by first | exact Nat.le_refl _ | exact Nat.le_of_ble_eq_true rfl | omega) (by first | exact Nat.le_refl _ | exact Nat.le_of_ble_eq_true rfl | omega) ?_
  refine r_dup C (by first | rfl | exact isR_cat (isR_rf _)) dX10_init_8 ?_
  refine r_callI C i_X10_9 (c_listInit _ _ (h := nw h 0 0) (a := hN h) (by rw [hK_nw, va_up_self])) dX10_init_9 (As := []) rfl rfl rfl (by first | exact Nat.le_refl _ | exact Nat.le_of_ble_eq_true rfl | omega) (Nat.le_of_ble_eq_true rfl) (by first | exact Nat.le_refl _ | exact Nat.le_of_ble_eq_true rfl | omega) (by first | exact Nat.le_refl _ | exact Nat.le_of_ble_eq_true rfl | omega) ?_
  have hk1 : hK (sR (sI (nw h 0 0) fA_modCount (hN h) 0) fA_elementData (hN h) (some 4)) t = 8 := by
    rw [hK_sR, hK_sI, hK_nw, va_up_ne _ _ (by omega)]; exact hk
  first | refine r_putFR (o := some _) C f_X10_10 dX10_init_12 rfl hN9 rfl (by assumption) ?_ | refine r_putFR (o := none) C f_X10_10 dX10_init_12 rfl hN9 rfl (by assumption) ?_ | refine r_putFR C f_X10_10 dX10_init_12 rfl hN9 rfl (by assumption) ?_
  have e6' : sR (sR (sI (nw h 0 0) fA_modCount (hN h) 0) fA_elementData (hN h) (some 4)) fT_row t (some (hN h)) = h6 := by rw [e6]; unfold tr0 nls; rfl
  rw [e6']
  have N6 : hN h6 = hN h + 1 := by rw [e6]; exact tr0_N h t
  refine r_aload_n (i := 0) C dX10_init_15 rfl rfl (by first | rfl | exact isR_rf _) ?_
  refine r_new C n_X10_7 dX10_init_16 (by first | exact Nat.le_refl _ | exact Nat.le_of_ble_eq_true rfl | omega) (by first | exact Nat.le_refl _ | exact Nat.le_of_ble_eq_true rfl | omega) ?_
  refine r_dup C (by first | rfl | exact isR_cat (isR_rf _)) dX10_init_19 ?_
  rw [N6]
  refine r_callI C i_X10_9 (c_listInit _ _ (h := nw h6 0 0) (a := hN h + 1) (by rw [hK_nw, N6, va_up_self])) dX10_init_20 (As := []) rfl rfl rfl (by first | exact Nat.le_refl _ | exact Nat.le_of_ble_eq_true rfl | omega) (Nat.le_of_ble_eq_true rfl) (by first | exact Nat.le_refl _ | exact Nat.le_of_ble_eq_true rfl | omega) (by first | exact Nat.le_refl _ | exact Nat.le_of_ble_eq_true rfl | omega) ?_
  have hk2 : hK (sR (sI (nw h6 0 0) fA_modCount (hN h + 1) 0) fA_elementData (hN h + 1) (some 4)) t = 8 := by
    rw [hK_sR, hK_sI, hK_nw, N6, va_up_ne _ _ (by omega)]; exact kn1
  first | refine r_putFR (o := some _) C f_X10_16 dX10_init_23 rfl hN9 rfl (by assumption) ?_ | refine r_putFR (o := none) C f_X10_16 dX10_init_23 rfl hN9 rfl (by assumption) ?_ | refine r_putFR C f_X10_16 dX10_init_23 rfl hN9 rfl (by assumption) ?_
  have e7' : sR (sR (sI (nw h6 0 0) fA_modCount (hN h + 1) 0) fA_elementData (hN h + 1) (some 4)) fT_idle t (some (hN h + 1)) = h7 := by rw [e7, e6]; unfold tr1 nls; rfl
  rw [e7']
  refine r_new C n_X10_19 dX10_init_26 (by first | exact Nat.le_refl _ | exact Nat.le_of_ble_eq_true rfl | omega) (by first | exact Nat.le_refl _ | exact Nat.le_of_ble_eq_true rfl | omega) ?_
  refine r_dup C (by first | rfl | exact isR_cat (isR_rf _)) dX10_init_29 ?_
  rw [N1]
  refine r_callN C i_X10_21 Me dX10_init_30 (As := []) rfl rfl rfl (by first | exact Nat.le_refl _ | exact Nat.le_of_ble_eq_true rfl | omega) (Nat.le_of_ble_eq_true rfl) (by first | exact Nat.le_refl _ | exact Nat.le_of_ble_eq_true rfl | omega) (by first | exact Nat.le_refl _ | exact Nat.le_of_ble_eq_true rfl | omega) ?_
  refine r_astore_n (i := 1) C dX10_init_33 rfl (Nat.le_of_ble_eq_true rfl) (by first | rfl | exact isR_rf _) ?_
  refine r_aload_n (i := 1) C dX10_init_34 rfl rfl (by first | rfl | exact isR_rf _) ?_
  refine r_iconst (v := 0) C dX10_init_35 (by decide) ?_
  refine r_iconst (v := 0) C dX10_init_36 (by decide) ?_
  refine r_iconst (v := 0) C dX10_init_37 (by decide) ?_
  refine r_callVn C v_X10_22 Mb dX10_init_38 (by assumption) (ci := 3) (by decide) rfl rfl (As := [_, _, _]) rfl rfl rfl (by first | exact Nat.le_refl _ | exact Nat.le_of_ble_eq_true rfl | omega) (Nat.le_of_ble_eq_true rfl) (by first | exact Nat.le_refl _ | exact Nat.le_of_ble_eq_true rfl | omega) (by first | exact Nat.le_refl _ | exact Nat.le_of_ble_eq_true rfl | omega) ?_
  refine r_aload_n (i := 0) C dX10_init_41 rfl rfl (by first | rfl | exact isR_rf _) ?_
  refine r_getR C f_X10_10 dX10_init_42 rfl (by assumption) ?_
  rw [rw2]
  refine r_aload_n (i := 1) C dX10_init_45 rfl rfl (by first | rfl | exact isR_rf _) ?_
  refine r_callVs C v_X10_26 M dX10_init_46 (by assumption) (ci := 0) (by decide) rfl rfl (As := [_]) rfl rfl rfl (by first | exact Nat.le_refl _ | exact Nat.le_of_ble_eq_true rfl | omega) (Nat.le_of_ble_eq_true rfl) (by first | exact Nat.le_refl _ | exact Nat.le_of_ble_eq_true rfl | omega) (by first | exact Nat.le_refl _ | exact Nat.le_of_ble_eq_true rfl | omega) ?_
  refine r_pop C (by first | rfl | exact isR_cat (isR_rf _)) dX10_init_49 ?_
  refine r_aload_n (i := 0) C dX10_init_50 rfl rfl (by first | rfl | exact isR_rf _) ?_
  refine r_iconst (v := 1) C dX10_init_51 (by decide) ?_
  refine r_putI C f_X10_30 dX10_init_52 rfl rfl rfl (by assumption) ?_
  exact r_vret C E dX10_init_55 rfl (by omega) (by omega)
