/-! ===== CascadeHouse.<init>: the stages ===== -/
def OLF (h h' : Hp) : Prop := KP h h' ∧ (∀ f x, (f < 576 ∨ 640 ≤ f) → x < hN h → hI h' f x = hI h f x) ∧ (∀ f x, (f < 576 ∨ 640 ≤ f) → x < hN h → hR h' f x = hR h f x) ∧ (∀ x, x < hN h → hQ h' x = hQ h x) ∧ (∀ x, x < hN h → hA h' x = hA h x) ∧ hW h' = hW h
theorem OLF_r (h : Hp) : OLF h h := ⟨KP_r h, fun _ _ _ _ => rfl, fun _ _ _ _ => rfl, fun _ _ => rfl, fun _ _ => rfl, rfl⟩
theorem OLF_of {h h' : Hp} (H : OLD h h') : OLF h h' := ⟨H.1, fun f x _ hx => H.2.1 f x hx, fun f x _ hx => H.2.2.1 f x hx, H.2.2.2.1, H.2.2.2.2.1, H.2.2.2.2.2⟩
theorem OLF_t {h h1 h2 : Hp} (A : OLF h h1) (B : OLF h1 h2) : OLF h h2 := by
  obtain ⟨a1, a2, a3, a4, a5, a6⟩ := A
  obtain ⟨b1, b2, b3, b4, b5, b6⟩ := B
  have n := a1.1
  exact ⟨KP_t a1 b1, fun f x hf hx => (b2 f x hf (by omega)).trans (a2 f x hf hx), fun f x hf hx => (b3 f x hf (by omega)).trans (a3 f x hf hx), fun x hx => (b4 x (by omega)).trans (a4 x hx), fun x hx => (b5 x (by omega)).trans (a5 x hx), b6.trans a6⟩
theorem OLF_I {h0 h : Hp} {f a : Nat} {v : Int32} (hf : 576 ≤ f ∧ f < 640) (H : OLF h0 h) : OLF h0 (sI h f a v) := by
  obtain ⟨a1, a2, a3, a4, a5, a6⟩ := H
  refine ⟨KP_t a1 KP_sI, fun g x hg hx => ?_, a3, a4, a5, a6⟩
  rw [iI_ne (by omega)]
  exact a2 g x hg hx
theorem OLF_R {h0 h : Hp} {f a : Nat} {v : Option Nat} (hf : 576 ≤ f ∧ f < 640) (H : OLF h0 h) : OLF h0 (sR h f a v) := by
  obtain ⟨a1, a2, a3, a4, a5, a6⟩ := H
  refine ⟨KP_sR a1, a2, fun g x hg hx => ?_, a4, a5, a6⟩
  rw [rR_ne (by omega)]
  exact a3 g x hg hx
theorem AL_olf {h h' : Hp} {l d : Nat} {xs : List Nat} (hg : Good h) (F : OLF h h') (H : AL h l d xs) : AL h' l d xs := by
  have hl := (kind_in hg H.1 (by decide)).2
  exact AL_f hg F.1 (F.2.1 _ _ (Or.inl (by decide)) hl) (F.2.2.1 _ _ (Or.inl (by decide)) hl) (fun _ k => F.2.2.2.1 _ (kind_in hg k (by decide)).2) H
theorem EW_olf {h h' : Hp} {e : Nat} (hg : Good h) (F : OLF h h') (H : EW h e) : EW h' e ∧ frs h' e = frs h e ∧ kpt h' e = kpt h e := by
  have he := (kind_in hg H.1 (by decide)).2
  have r : ∀ f x, f < 576 → x < hN h → hR h' f x = hR h f x := fun f x hf hx => F.2.2.1 f x (Or.inl hf) hx
  have f : frs h' e = frs h e := by unfold frs; rw [r _ _ (by decide) he]
  have k : kpt h' e = kpt h e := by unfold kpt; rw [r _ _ (by decide) he]
  obtain ⟨a, b, c, d, g⟩ := H
  have lw : ∀ {k}, LW h k → LW h' k := fun {k} w => (LW_p hg F.1 (r _ _ (by decide) (kind_in hg w.1 (by decide)).2) (r _ _ (by decide) (kind_in hg w.1 (by decide)).2) w).1
  refine ⟨⟨KP_k hg F.1 a (by decide), ?_, ?_, ?_, ?_⟩, f, k⟩
  · rw [r _ _ (by decide) he, f]; exact b
  · rw [f]; exact lw c
  · rw [r _ _ (by decide) he, k]; exact d
  · rw [k]; exact lw g
/-- the looks' rows of one element -/
def LkX (h : Hp) (e : Nat) : Prop := frs h e = e + 4 ∧ kpt h e = e + 1 ∧ vls h (e + 4) = e + 5 ∧ scs h (e + 4) = e + 6 ∧ vls h (e + 1) = e + 2 ∧ scs h (e + 1) = e + 3
/-- the root as it begins -/
def RT0 (h : Hp) (e : Nat) : Prop := (hI h fE_number e = 0 ∧ hI h fE_tag e = 0 ∧ hI h fE_classes e = 0 ∧ hI h fE_words e = 0 ∧ hI h fE_isContainer e = 0) ∧ (hR h fE_parent e = none ∧ hR h fE_ahead e = none ∧ hR h fE_next e = none ∧ hR h fE_first e = none ∧ hR h fE_last e = none) ∧ hI h fL_isKnown (e + 1) = 0
theorem ht_1 (l : Launch) (G : Gl) {h : Hp} {t : Nat} (hg : Good h) (hk : hK h t = 8) : ∃ (h3 : Hp) (d2 : Nat), MRw l G yX10_init (.code yX10_init cX10_init 2 none) 7 10 156 [.ref t] h (.inl (none, h3)) ∧ Good h3 ∧ KP h h3 ∧ hW h3 = hW h ∧ (hR h3 fT_row t = some (hN h) ∧ hR h3 fT_idle t = some (hN h + 1)) ∧
    AL h3 (hN h) d2 [hN h + 2] ∧ AL h3 (hN h + 1) 4 [] ∧ EW h3 (hN h + 2) ∧ LkX h3 (hN h + 2) ∧ RT0 h3 (hN h + 2) ∧ hI h3 fT_nextNumber t = 1 := by
  obtain ⟨h2, d2, M, A2, F2, g2⟩ := c_treeInit l G hg hk
  have htN := (kind_in hg hk (by decide)).2
  have g1 := tr1_g hg htN
  have N1 := tr1_N h t
  have gn := gd_neE g1
  have Kn := KP_neE (tr1 h t)
  obtain ⟨n1, n2, n3, n4⟩ := K_neE (tr1 h t)
  obtain ⟨w1, w2, w3, w4, w5, w6, w7⟩ := neE_l g1
  obtain ⟨m1, m2, m3, m4⟩ := neE_s (tr1 h t)
  rw [N1] at n1 n2 n3 n4 w1 w2 w3 w4 w5 w6 w7
  obtain ⟨b1, b2, b3, b4, b5, b6⟩ := bgE_s (neE (tr1 h t)) (hN h + 2) (hN h + 3) 0 0 0
  have gt2 : Good (tr2 h t) := bgE_g gn n1 (kind_in gn n3 (by decide)).2
  have K1 : KP h (tr1 h t) := by
    refine ⟨by rw [N1]; omega, fun a ha => ⟨?_, ?_⟩⟩
    · rw [tr1_K, va_up_ne _ _ (by omega), va_up_ne _ _ (by omega)]
    · show va_up (va_up (hL h) (hN h) 0) (hN h + 1) 0 a = hL h a
      rw [va_up_ne _ _ (by omega), va_up_ne _ _ (by omega)]
  have Kb : KP (neE (tr1 h t)) (tr2 h t) := ⟨by unfold tr2; rw [b1]; exact Nat.le_refl _, fun a _ => ⟨by unfold tr2; rw [b2], by unfold tr2; rw [b3]⟩⟩
  have K12 : KP (neE (tr1 h t)) (sI h2 fT_nextNumber t 1) := KP_t Kb (KP_t F2.1 KP_sI)
  have tR : ∀ f, (f < 197 ∨ 201 < f) → hR (tr2 h t) f = hR (neE (tr1 h t)) f := fun f hf => by
    unfold tr2
    exact bgE_R (fun y => by rw [y] at hf; exact absurd hf (by decide)) (fun y => by rw [y] at hf; exact absurd hf (by decide)) (fun y => by rw [y] at hf; exact absurd hf (by decide)) (fun y => by rw [y] at hf; exact absurd hf (by decide)) (fun y => by rw [y] at hf; exact absurd hf (by decide))
  have fR : ∀ f, f ≠ fA_elementData → hR (sI h2 fT_nextNumber t 1) f = hR (tr2 h t) f := fun f hf => by
    rw [hR_sI]
    exact F2.2.2.2.2.1 f hf
  have fI : ∀ f, f ≠ fA_modCount → f ≠ fA_size → f ≠ fT_nextNumber → hI (sI h2 fT_nextNumber t 1) f = hI (tr2 h t) f := fun f a b c => by
    rw [iI_ne c]
    exact F2.2.2.1 f a b
  have tN : t < hN h2 := Nat.lt_of_lt_of_le htN (KP_t K1 (KP_t Kn (KP_t Kb F2.1))).1
  have eR : ∀ f, f ≠ fA_elementData → (f < 197 ∨ 201 < f) → hR (sI h2 fT_nextNumber t 1) f = hR (neE (tr1 h t)) f := fun f a b => (fR f a).trans (tR f b)
  have fr2 : frs (sI h2 fT_nextNumber t 1) = frs (neE (tr1 h t)) := funext fun k => by unfold frs; rw [eR _ (by decide) (by decide)]
  have kp2 : kpt (sI h2 fT_nextNumber t 1) = kpt (neE (tr1 h t)) := funext fun k => by unfold kpt; rw [eR _ (by decide) (by decide)]
  have v2 : vls (sI h2 fT_nextNumber t 1) = vls (neE (tr1 h t)) := funext fun k => by unfold vls; rw [eR _ (by decide) (by decide)]
  have s2 : scs (sI h2 fT_nextNumber t 1) = scs (neE (tr1 h t)) := funext fun k => by unfold scs; rw [eR _ (by decide) (by decide)]
  have kI : hK (tr2 h t) (hN h + 1) = 0 := by
    unfold tr2
    rw [b2]
    exact KP_k g1 Kn (by rw [tr1_K, va_up_self]) (by decide)
  have sz : hI (tr2 h t) fA_size (hN h + 1) = nI 0 := by
    unfold tr2
    rw [bgE_I (by decide) (by decide) (by decide) (by decide) (by decide) (by decide), m1]
    unfold tr1 nls
    rw [hI_sR, hI_sR, iI_ne (by decide), hI_nw]
    unfold tr0 nls
    rw [hI_sR, hI_sR, iI_ne (by decide), hI_nw]
    exact ((hg.2.2.1 (hN h + 1) (by omega)).2.1 fA_size).1
  have dt : hR (tr2 h t) fA_elementData (hN h + 1) = some 4 := by
    rw [tR _ (by decide), neE_R (by decide) (by decide) (by decide) (by decide)]
    unfold tr1 nls
    rw [rR_ne (by decide), rR_at]
  have A8 : AL (tr2 h t) (hN h + 1) 4 [] := ⟨kI, sz, dt, by decide, Or.inl ⟨rfl, rfl⟩⟩
  have r1 : hR (tr2 h t) fT_row t = some (hN h) := by
    rw [tR _ (by decide), neE_R (by decide) (by decide) (by decide) (by decide)]
    unfold tr1 nls
    rw [rR_ne (by decide), rR_ne (by decide), hR_sI, hR_nw]
    unfold tr0
    rw [rR_at]
  have r2 : hR (tr2 h t) fT_idle t = some (hN h + 1) := by
    rw [tR _ (by decide), neE_R (by decide) (by decide) (by decide) (by decide)]
    unfold tr1
    rw [rR_at]
  refine ⟨sI h2 fT_nextNumber t 1, d2, M, gd_sI g2 tN, KP_t K1 (KP_t Kn K12), ?_, ⟨by rw [fR _ (by decide)]; exact r1, by rw [fR _ (by decide)]; exact r2⟩, AL_sI (by decide) A2, AL_sI (by decide) (LF_AL gt2 F2 A8 (by omega) (fun w => w)), ?_, ?_, ⟨⟨?_, ?_, ?_, ?_, ?_⟩, ⟨?_, ?_, ?_, ?_, ?_⟩, ?_⟩, by rw [iI_at]⟩
  · rw [hW_sI, F2.2.2.2.2.2.2.2.1]
    unfold tr2
    rw [b6, m4]
    rfl
  · obtain ⟨y1, y2, y3, y4, y5⟩ := w1
    refine ⟨KP_k gn K12 y1 (by decide), ?_, ?_, ?_, ?_⟩
    · rw [eR _ (by decide) (by decide), fr2]; exact y2
    · rw [fr2]; exact KP_LW gn K12 (eR _ (by decide) (by decide)) (eR _ (by decide) (by decide)) y3
    · rw [eR _ (by decide) (by decide), kp2]; exact y4
    · rw [kp2]; exact KP_LW gn K12 (eR _ (by decide) (by decide)) (eR _ (by decide) (by decide)) y5
  · unfold LkX
    rw [fr2, kp2, v2, s2]
    exact ⟨w2, w3, w4, w5, w6, w7⟩
  · rw [fI _ (by decide) (by decide) (by decide)]
    unfold tr2 bgE
    rw [iI_ne (by decide), hI_sR, hI_sR, hI_sR, hI_sR, hI_sR, iI_ne (by decide), iI_ne (by decide), iI_ne (by decide), iI_ne (by decide), iI_at]
  · rw [fI _ (by decide) (by decide) (by decide)]
    unfold tr2 bgE
    rw [iI_ne (by decide), hI_sR, hI_sR, hI_sR, hI_sR, hI_sR, iI_ne (by decide), iI_ne (by decide), iI_ne (by decide), iI_at]
  · rw [fI _ (by decide) (by decide) (by decide)]
    unfold tr2 bgE
    rw [iI_ne (by decide), hI_sR, hI_sR, hI_sR, hI_sR, hI_sR, iI_ne (by decide), iI_ne (by decide), iI_at]
  · rw [fI _ (by decide) (by decide) (by decide)]
    unfold tr2 bgE
    rw [iI_ne (by decide), hI_sR, hI_sR, hI_sR, hI_sR, hI_sR, iI_ne (by decide), iI_at]
  · rw [fI _ (by decide) (by decide) (by decide)]
    unfold tr2 bgE
    rw [iI_ne (by decide), hI_sR, hI_sR, hI_sR, hI_sR, hI_sR, iI_at]
  · rw [fR _ (by decide)]
    unfold tr2 bgE
    rw [hR_sI, rR_ne (by decide), rR_ne (by decide), rR_ne (by decide), rR_ne (by decide), rR_at]
  · rw [fR _ (by decide)]
    unfold tr2 bgE
    rw [hR_sI, rR_ne (by decide), rR_ne (by decide), rR_ne (by decide), rR_at]
  · rw [fR _ (by decide)]
    unfold tr2 bgE
    rw [hR_sI, rR_ne (by decide), rR_ne (by decide), rR_at]
  · rw [fR _ (by decide)]
    unfold tr2 bgE
    rw [hR_sI, rR_ne (by decide), rR_at]
  · rw [fR _ (by decide)]
    unfold tr2 bgE
    rw [hR_sI, rR_at]
  · rw [fI _ (by decide) (by decide) (by decide)]
    unfold tr2 bgE
    rw [iI_at]
theorem hb_2 (l : Launch) (G : Gl) {h : Hp} (hg : Good h) : ∃ h6 : Hp, MRw l G yX8_init (.code yX8_init cX8_init 1 none) 4 2 6 [.ref (hN h)] (nw h 7 0) (.inl (none, h6)) ∧ Good h6 ∧ OLD h h6 ∧ hN h6 = hN h + 3 ∧ hK h6 (hN h) = 7 ∧ (hR h6 fB_rules (hN h) = some (hN h + 1) ∧ hR h6 fB_byStrength (hN h) = some (hN h + 2)) ∧ AL h6 (hN h + 1) 4 [] ∧ AL h6 (hN h + 2) 4 [] := by
  have M := c_bookInit l G (h := nw h 7 0) (b := hN h) (by rw [hK_nw, va_up_self]) (by rw [hN_nw]; omega)
  have N7 : hN (nw h 7 0) = hN h + 1 := hN_nw h 7 0
  rw [N7] at M
  obtain ⟨g7, e7⟩ : ∃ w, w = nw h 7 0 := ⟨_, rfl⟩
  obtain ⟨x1, ex1⟩ : ∃ w, w = sR (nls (nw g7 0 0) (hN h + 1)) fB_rules (hN h) (some (hN h + 1)) := ⟨_, rfl⟩
  obtain ⟨x2, ex2⟩ : ∃ w, w = sR (nls (nw x1 0 0) (hN h + 2)) fB_byStrength (hN h) (some (hN h + 2)) := ⟨_, rfl⟩
  have M2 : MRw l G yX8_init (.code yX8_init cX8_init 1 none) 4 2 6 [.ref (hN h)] (nw h 7 0) (.inl (none, x2)) := by
    rw [ex2, ex1, e7]
    exact M
  have gg7 : Good g7 := by rw [e7]; exact gd_nw hg (by decide) (by decide)
  have n7 : hN g7 = hN h + 1 := by rw [e7, hN_nw]
  have ga : Good (nls (nw g7 0 0) (hN h + 1)) := gd_nls (gd_nw gg7 (by decide) (by decide)) (by rw [hN_nw, n7]; omega)
  have na : hN (nls (nw g7 0 0) (hN h + 1)) = hN h + 2 := by rw [(nls_s _ _).1, hN_nw, n7]
  have gx1 : Good x1 := by rw [ex1]; exact gd_sR ga (by omega) (fun b hb => by cases hb; omega)
  have nx1 : hN x1 = hN h + 2 := by rw [ex1, hN_sR, na]
  have gb : Good (nls (nw x1 0 0) (hN h + 2)) := gd_nls (gd_nw gx1 (by decide) (by decide)) (by rw [hN_nw, nx1]; omega)
  have nb : hN (nls (nw x1 0 0) (hN h + 2)) = hN h + 3 := by rw [(nls_s _ _).1, hN_nw, nx1]
  have gx2 : Good x2 := by rw [ex2]; exact gd_sR gb (by omega) (fun b hb => by cases hb; omega)
  have O7 : OLD h g7 := by rw [e7]; exact OLD_nw
  have O1 : OLD h x1 := by rw [ex1]; exact OLD_sR (Nat.le_refl _) (OLD_nls (by omega) (OLD_nw2 O7))
  have O2 : OLD h x2 := by rw [ex2]; exact OLD_sR (Nat.le_refl _) (OLD_nls (by omega) (OLD_nw2 O1))
  have kx1 : hK x1 = va_up (hK g7) (hN h + 1) 0 := by rw [ex1, hK_sR, (nls_s _ _).2.1, hK_nw, n7]
  have kx2 : hK x2 = va_up (hK x1) (hN h + 2) 0 := by rw [ex2, hK_sR, (nls_s _ _).2.1, hK_nw, nx1]
  have i1 : ∀ f, f ≠ fA_modCount → hI x1 f = hI h f := fun f hf => by
    rw [ex1, e7]
    unfold nls
    rw [hI_sR, hI_sR, iI_ne hf, hI_nw, hI_nw]
  have i2 : ∀ f, f ≠ fA_modCount → hI x2 f = hI h f := fun f hf => by
    rw [ex2]
    unfold nls
    rw [hI_sR, hI_sR, iI_ne hf, hI_nw, i1 f hf]
  refine ⟨x2, M2, gx2, O2, by rw [ex2, hN_sR, nb], ?_, ⟨?_, ?_⟩, ⟨?_, ?_, ?_, by decide, Or.inl ⟨rfl, rfl⟩⟩, ⟨?_, ?_, ?_, by decide, Or.inl ⟨rfl, rfl⟩⟩⟩
  · rw [kx2, va_up_ne _ _ (by omega), kx1, va_up_ne _ _ (by omega), e7, hK_nw, va_up_self]
  · rw [ex2]
    unfold nls
    rw [rR_ne (by decide), rR_ne (by decide), hR_sI, hR_nw, ex1, rR_at]
  · rw [ex2, rR_at]
  · rw [kx2, va_up_ne _ _ (by omega), kx1, va_up_self]
  · rw [i2 _ (by decide)]
    exact ((hg.2.2.1 (hN h + 1) (by omega)).2.1 fA_size).1
  · rw [ex2]
    unfold nls
    rw [rR_ne (by decide), rR_nb (by omega), hR_sI, hR_nw, ex1]
    unfold nls
    rw [rR_ne (by decide), rR_at]
  · rw [kx2, va_up_self]
  · rw [i2 _ (by decide)]
    exact ((hg.2.2.1 (hN h + 2) (by omega)).2.1 fA_size).1
  · rw [ex2]
    unfold nls
    rw [rR_ne (by decide), rR_at]
theorem hc_3 (l : Launch) (G : Gl) {h : Hp} {b : Nat} (hg : Good h) (hb : b < hN h) : ∃ h9 : Hp, MRw l G yX0_init (.code yX0_init cX0_init 2 none) 4 4 35 [.ref (hN h), .ref b] (nw h 1 0) (.inl (none, h9)) ∧ Good h9 ∧ OLD h h9 ∧ hN h9 = hN h + 5 ∧ hK h9 (hN h) = 1 ∧ (hR h9 fC_book (hN h) = some b ∧ hR h9 fC_listed (hN h) = some (hN h + 1) ∧ hR h9 fC_deciding (hN h) = some (hN h + 2) ∧ hR h9 fC_passed (hN h) = some (hN h + 3) ∧ hR h9 fC_needed (hN h) = some (hN h + 4)) ∧ AL h9 (hN h + 1) 4 [] ∧
    (hK h9 (hN h + 2) = 104 ∧ hL h9 (hN h + 2) = 14 ∧ hK h9 (hN h + 3) = 100 ∧ hL h9 (hN h + 3) = 14 ∧ hK h9 (hN h + 4) = 100 ∧ hL h9 (hN h + 4) = 4) := by
  have M := c_cascInit l G (h := nw h 1 0) (c := hN h) (b := b) (by rw [hK_nw, va_up_self]) (by rw [hN_nw]; omega)
  have N1 : hN (nw h 1 0) = hN h + 1 := hN_nw h 1 0
  obtain ⟨g, eg⟩ : ∃ w, w = nw h 1 0 := ⟨_, rfl⟩
  have ng : hN g = hN h + 1 := by rw [eg, N1]
  have gg : Good g := by rw [eg]; exact gd_nw hg (by decide) (by decide)
  have Og : OLD h g := by rw [eg]; exact OLD_nw
  have kg : hK g (hN h) = 1 := by rw [eg, hK_nw, va_up_self]
  have ig : hI g = hI h := by rw [eg, hI_nw]
  have g1 : Good (ca1 g (hN h)) := gd_sR (gd_nls (gd_nw gg (by decide) (by decide)) (by rw [hN_nw]; omega)) (by rw [(nls_s _ _).1, hN_nw]; omega) (fun b hb => by cases hb; rw [(nls_s _ _).1, hN_nw]; omega)
  have n1 : hN (ca1 g (hN h)) = hN h + 2 := by unfold ca1; rw [hN_sR, (nls_s _ _).1, hN_nw, ng]
  have O1 : OLD h (ca1 g (hN h)) := OLD_sR (f := fC_listed) (a := hN h) (v := some (hN g)) (Nat.le_refl _) (OLD_nls (by omega) (OLD_nw2 Og))
  have k1 : hK (ca1 g (hN h)) = va_up (hK g) (hN h + 1) 0 := by unfold ca1; rw [hK_sR, (nls_s _ _).2.1, hK_nw, ng]
  have i1 : ∀ f, f ≠ fA_modCount → hI (ca1 g (hN h)) f = hI h f := fun f hf => by
    unfold ca1 nls
    rw [hI_sR, hI_sR, iI_ne hf, hI_nw, ig]
  have r1 : hR (ca1 g (hN h)) fC_listed (hN h) = some (hN h + 1) ∧ hR (ca1 g (hN h)) fA_elementData (hN h + 1) = some 4 := by
    unfold ca1 nls
    rw [rR_at, rR_ne (by decide), ng, rR_at]
    exact ⟨rfl, rfl⟩
  obtain ⟨c1, e1⟩ : ∃ w, w = ca1 g (hN h) := ⟨_, rfl⟩
  rw [← e1] at g1 n1 O1 k1 i1 r1
  have st : ∀ (x : Hp) (k n f v : Nat), Good x → OLD h x → hN x = v → hN h < v → okK k = true → n < 2 ^ 31 → Good (sR (nw x k n) f (hN h) (some v)) ∧ hN (sR (nw x k n) f (hN h) (some v)) = v + 1 ∧ OLD h (sR (nw x k n) f (hN h) (some v)) := fun x k n f v gx Ox nv hv hk hn => by
    have g' := gd_nw (k := k) (n := n) gx hk hn
    exact ⟨gd_sR g' (by rw [hN_nw]; omega) (fun b hb => by cases hb; rw [hN_nw]; omega), by rw [hN_sR, hN_nw, nv], OLD_sR (Nat.le_refl _) (OLD_nw2 Ox)⟩
  obtain ⟨c2, e2⟩ : ∃ w, w = sR (nw c1 104 14) fC_deciding (hN h) (some (hN h + 2)) := ⟨_, rfl⟩
  obtain ⟨g2, n2, O2⟩ := st c1 104 14 fC_deciding (hN h + 2) g1 O1 n1 (by omega) (by decide) (by decide)
  rw [← e2] at g2 n2 O2
  obtain ⟨c3, e3⟩ : ∃ w, w = sR (nw c2 100 14) fC_passed (hN h) (some (hN h + 3)) := ⟨_, rfl⟩
  obtain ⟨g3, n3, O3⟩ := st c2 100 14 fC_passed (hN h + 3) g2 O2 n2 (by omega) (by decide) (by decide)
  rw [← e3] at g3 n3 O3
  obtain ⟨c4, e4⟩ : ∃ w, w = sR (nw c3 100 4) fC_needed (hN h) (some (hN h + 4)) := ⟨_, rfl⟩
  obtain ⟨g4, n4, O4⟩ := st c3 100 4 fC_needed (hN h + 4) g3 O3 n3 (by omega) (by decide) (by decide)
  rw [← e4] at g4 n4 O4
  obtain ⟨c5, e5⟩ : ∃ w, w = sR c4 fC_book (hN h) (some b) := ⟨_, rfl⟩
  have g5 : Good c5 := by rw [e5]; exact gd_sR g4 (by omega) (fun x hx => by cases hx; omega)
  have O5 : OLD h c5 := by rw [e5]; exact OLD_sR (Nat.le_refl _) O4
  have M2 : MRw l G yX0_init (.code yX0_init cX0_init 2 none) 4 4 35 [.ref (hN h), .ref b] (nw h 1 0) (.inl (none, c5)) := by
    rw [← eg] at M ⊢
    have ec : caH g (hN h) b = c5 := by
      rw [e5, e4, e3, e2, e1]
      unfold caH ca4 ca3 ca2
      rw [ng]
    rw [← ec]
    exact M
  have k5 : hK c5 = va_up (va_up (va_up (hK c1) (hN h + 2) 104) (hN h + 3) 100) (hN h + 4) 100 := by
    rw [e5, hK_sR, e4, hK_sR, hK_nw, n3, e3, hK_sR, hK_nw, n2, e2, hK_sR, hK_nw, n1]
  have l5 : hL c5 = va_up (va_up (va_up (hL c1) (hN h + 2) 14) (hN h + 3) 14) (hN h + 4) 4 := by
    rw [e5, hL_sR, e4, hL_sR, hL_nw, n3, e3, hL_sR, hL_nw, n2, e2, hL_sR, hL_nw, n1]
  have i5 : hI c5 = hI c1 := by rw [e5, hI_sR, e4, hI_sR, hI_nw, e3, hI_sR, hI_nw, e2, hI_sR, hI_nw]
  refine ⟨c5, M2, g5, O5, by rw [e5, hN_sR, n4], ?_, ⟨?_, ?_, ?_, ?_, ?_⟩, ⟨?_, ?_, ?_, by decide, Or.inl ⟨rfl, rfl⟩⟩, ?_, ?_, ?_, ?_, ?_, ?_⟩
  · rw [k5, va_up_ne _ _ (by omega), va_up_ne _ _ (by omega), va_up_ne _ _ (by omega), k1, va_up_ne _ _ (by omega)]
    exact kg
  · rw [e5, rR_at]
  · rw [e5, rR_ne (by decide), e4, rR_ne (by decide), hR_nw, e3, rR_ne (by decide), hR_nw, e2, rR_ne (by decide), hR_nw]
    exact r1.1
  · rw [e5, rR_ne (by decide), e4, rR_ne (by decide), hR_nw, e3, rR_ne (by decide), hR_nw, e2, rR_at]
  · rw [e5, rR_ne (by decide), e4, rR_ne (by decide), hR_nw, e3, rR_at]
  · rw [e5, rR_ne (by decide), e4, rR_at]
  · rw [k5, va_up_ne _ _ (by omega), va_up_ne _ _ (by omega), va_up_ne _ _ (by omega), k1, va_up_self]
  · rw [i5, i1 _ (by decide)]
    exact ((hg.2.2.1 (hN h + 1) (by omega)).2.1 fA_size).1
  · rw [e5, rR_ne (by decide), e4, rR_ne (by decide), hR_nw, e3, rR_ne (by decide), hR_nw, e2, rR_ne (by decide), hR_nw]
    exact r1.2
  · rw [k5, va_up_ne _ _ (by omega), va_up_ne _ _ (by omega), va_up_self]
  · rw [l5, va_up_ne _ _ (by omega), va_up_ne _ _ (by omega), va_up_self]
  · rw [k5, va_up_ne _ _ (by omega), va_up_self]
  · rw [l5, va_up_ne _ _ (by omega), va_up_self]
  · rw [k5, va_up_self]
  · rw [l5, va_up_self]
