/-! ===== a house alone: add and rule (by gencj.py) ===== -/

theorem cj_add (l : Launch) (G : Gl) {A : Nat → Nat} {bb n R : Nat} {h : Hp} {S : MM} (H : CJ A h S bb n R) (hb : bb < 2 ^ 31) {x t c : Int32} {p : Nat} (hp : plc S n x = some p) (q1 : ¬ (t < 0 ∨ 5 < t)) (q2 : ¬ (c < 0 ∨ 255 < c)) (h24 : n < 24) : ∃ (h2 : Hp) (S' : MM), MRw l G yX11_add (.code yX11_add cX11_add 6 (Option.some Jvm.ClassFile.FieldType.int)) 12 30 600 [.ref (A 0), .int x, .int t, .int c] h (.inl (some (.int (S 2 0)), h2)) ∧ TG (tAdd S n p t c) S' ∧ CJ A h2 S' (bb + 1) (n + 1) R ∧ STY h h2 := by
  obtain ⟨m0, D, Ee, is, ss, ra, pa, Dd, Pl, dP, T0, N, O, nu, z, len, ky⟩ := H
  obtain ⟨m, em⟩ : ∃ m, m = hN h + 7 := ⟨_, rfl⟩
  have T := TLD_m (m' := m) (by omega) T0
  have m33 : hN h + 7 ≤ m := by omega
  have hkH := T.2.1.1.1
  have hS := N.1.1
  have hpn := (plc_lt hp).1
  obtain ⟨hg, hX, ⟨l7, l8, l9, l10, l11, lp⟩, hE, hT, _⟩ := id T
  have size : MRw l G yX10_size (.code yX10_size cX10_size 1 (Option.some Jvm.ClassFile.FieldType.int)) 1 0 0 [.ref (A 1)] h (.inl (some (.int (nI n)), h)) := by
    have := c_treeSize l G hX.2.1.1 hX.2.1.2.1 l7.1
    rw [l7.2.1, List.length_map, List.length_range] at this
    exact this
  obtain ⟨⟨p78, _⟩, _⟩ := ls_pw lp
  have hT0 := hT.2 p hpn
  have hes : ∀ y, y ∈ (List.range n).map Ee → hK h y = 3 := fun y hy => (hE.2.1 y (List.mem_append_left _ hy)).1
  obtain ⟨h1, h2, e, kp, d2, Ma, C, g1, A2, F2, g2⟩ := c_treeAppend l G (x1 := t) (x2 := c) (p := Ee p) hg hX.2.1.1 hX.2.1.2.1 hX.2.1.2.2 l7 l8 p78.1 p78.2 (by rw [List.length_map, List.length_range]; omega) hes (fun y hy => hE.2.1 y (List.mem_append_right _ hy)) (List.mem_map.mpr ⟨p, List.mem_range.mpr hpn, rfl⟩) (fun w => (nd_app hE.1).2.2 _ (List.mem_map.mpr ⟨p, List.mem_range.mpr hpn, rfl⟩) _ w rfl) (fun q hq => by
    rw [hT0.2.2.2.2.2] at hq
    cases ho : (chl S n p).getLast? with
    | none => rw [ho] at hq; cases hq
    | some b =>
      rw [ho] at hq
      cases hq
      exact hes _ (List.mem_map.mpr ⟨b, List.mem_range.mpr (gl_lt ho), rfl⟩))
  obtain ⟨is', len', K1, fI1, fS1, fR1, fE1, fQ1, fW1, A1, E1, T1, O1, hkp⟩ := ad_1 T O m33 len h24 C
  obtain ⟨N2, nu2, hF⟩ := TNR_ad (t := t) (c := c) hpn h24 hb N nu
  obtain ⟨a1, a2, a3, a4, a5, a6⟩ := lkA_s h1 (A 1) e kp (Ee p) t c
  obtain ⟨_, i2, i3, i4, i5⟩ := lkA_i (h := h1) (t := A 1) (e := e) (kp := kp) (p := Ee p) (a := t) (b := c)
  have Klk : KP h1 (lkA h1 (A 1) e kp (Ee p) t c) := ⟨by rw [a1]; exact Nat.le_refl _, fun a _ => ⟨by rw [a2], by rw [a3]⟩⟩
  have hEe : EW h1 e := E1.2.1 e (List.mem_append_left _ (List.mem_append_right _ (List.mem_singleton.mpr rfl)))
  have kt1 : hK h1 (A 1) = 8 := KP_k hg K1 hX.2.1.1 (by decide)
  have kp1 : hK h1 (Ee p) = 3 := KP_k hg K1 (hes _ (List.mem_map.mpr ⟨p, List.mem_range.mpr hpn, rfl⟩)) (by decide)
  have glk : Good (lkA h1 (A 1) e kp (Ee p) t c) := lkA_g g1 (kind_in g1 kt1 (by decide)).2 (kind_in g1 hEe.1 (by decide)).2 (by rw [hkp]; exact (kind_in g1 hEe.2.2.2.2.1 (by decide)).2) (kind_in g1 kp1 (by decide)).2
  have A1l : AL (lkA h1 (A 1) e kp (Ee p) t c) (A 8) (D 8) is' := AL_KP g1 Klk (by rw [lkA_I (by decide) (by decide) (by decide) (by decide) (by decide) (by decide) (by decide)]) (by rw [lkA_R (by decide) (by decide) (by decide) (by decide) (by decide)]) (fun _ => by rw [a5]) A1
  have he : ∀ i, i < n → Ee i ≠ e := fun i hi w => by
    have := (nd_app (nd_app E1.1).1).2.2 (Ee i) (List.mem_map.mpr ⟨i, List.mem_range.mpr hi, rfl⟩) e (List.mem_singleton.mpr rfl)
    exact this w
  have bI : ∀ f, f ≠ fA_modCount → f ≠ fA_size → (f < 192 ∨ 266 < f) → f ≠ fT_nextNumber → hI h2 f = hI h1 f := fun f b1 b2 b3 b4 => (F2.2.2.1 f b1 b2).trans (lkA_I (fun y => by rw [y] at b3; exact absurd b3 (by decide)) (fun y => by rw [y] at b3; exact absurd b3 (by decide)) (fun y => by rw [y] at b3; exact absurd b3 (by decide)) (fun y => by rw [y] at b3; exact absurd b3 (by decide)) (fun y => by rw [y] at b3; exact absurd b3 (by decide)) (fun y => by rw [y] at b3; exact absurd b3 (by decide)) b4)
  have bR : ∀ f, f ≠ fA_elementData → (f < 197 ∨ 201 < f) → hR h2 f = hR h1 f := fun f b1 b2 => (F2.2.2.2.2.1 f b1).trans (lkA_R (fun y => by rw [y] at b2; exact absurd b2 (by decide)) (fun y => by rw [y] at b2; exact absurd b2 (by decide)) (fun y => by rw [y] at b2; exact absurd b2 (by decide)) (fun y => by rw [y] at b2; exact absurd b2 (by decide)) (fun y => by rw [y] at b2; exact absurd b2 (by decide)))
  have K12 : KP h1 h2 := KP_t Klk F2.1
  have K02 : KP h h2 := KP_t K1 K12
  have snn : hI h1 fT_nextNumber (A 1) = S 2 0 := by rw [fI1 _ (by decide) (by decide)]; exact T.2.2.2.2.2.2.2.1
  have T2 := TEL_ad (a := t) (b := c) (kp := kp) hS hpn h24 T1 he snn F2.2.2.1 F2.2.2.2.2.1
  have E2 : ELS A m h2 ((List.range (n + 1)).map (up Ee n e) ++ is') := by
    rw [map_up]
    exact ELS_f g1 K12 (bR _ (by decide) (by decide)) (bR _ (by decide) (by decide)) (bR _ (by decide) (by decide)) (bR _ (by decide) (by decide)) E1
  have hA2 : hA h2 = hA h1 := F2.2.2.2.2.2.2.1.trans a4
  have hW2 : hW h2 = hW h := (F2.2.2.2.2.2.2.2.1.trans a6).trans fW1
  obtain ⟨tn4, tn3, tn2⟩ := tAdd_n (S := S) (n := n) (p := p) (t := t) (c := c)
  have TL2 := TLD_tr (N1 := hN h1) T g2 K02 (fun f b1 b2 b3 b4 => (bI f b1 b2 b3 b4).trans (fI1 f b1 b2)) (fun y y7 y8 => by rw [F2.2.2.2.1 _ y y7, lkA_I (by decide) (by decide) (by decide) (by decide) (by decide) (by decide) (by decide)]; exact fS1 y y8)
    (fun f b1 b2 => (bR f b1 (by omega)).trans (fR1 f b1 b2)) (fun y y7 y8 => by rw [F2.2.2.2.2.2.1 _ y y7, lkA_R (by decide) (by decide) (by decide) (by decide) (by decide)]; exact fE1 y y8) (fun y b1 b2 b3 => by
      rw [F2.2.2.2.2.2.2.2.2 y (Nat.lt_of_lt_of_le b1 (by rw [a1]; exact K1.1)) b2, a5]
      exact fQ1 y b1 b3) (by rw [map_up]; exact A2) (LF_AL glk F2 A1l (fun w => p78.1 w.symm) (fun w => by rw [w]; exact p78.2 w.symm)) (Or.inl rfl) ⟨K1.1, AL_dn g1 A1⟩ (by
      have := F2.2.1
      rw [a1] at this
      exact this) E2 T2 (fun k k1 k2 => tAdd_o (by omega)) (congrFun (tAdd_o (by decide)) 0) (by rw [F2.2.2.1 _ (by decide) (by decide), i5, snn, tn2])
  have hkn : ∀ i, i < n → kpt h1 (Ee i) ≠ kp := fun i hi w => by
    rw [hkp] at w
    exact he i hi ((lk_d E1).2.1 _ _ (List.mem_append_left _ (List.mem_append_left _ (List.mem_map.mpr ⟨i, List.mem_range.mpr hi, rfl⟩))) (List.mem_append_left _ (List.mem_append_right _ (List.mem_singleton.mpr rfl))) w)
  have O2 : KO h2 S (n + 1) (mtA n) (up Ee n e) := KO_ad O1 (fun f b1 b2 => (F2.2.2.1 f (fun y => by rw [y] at b1; exact absurd b1 (by decide)) (fun y => by rw [y] at b1; exact absurd b1 (by decide))).trans (lkA_I (fun y => by rw [y] at b1; exact absurd b1 (by decide)) (fun y => by rw [y] at b1; exact absurd b1 (by decide)) (fun y => by rw [y] at b1; exact absurd b1 (by decide)) (fun y => by rw [y] at b1; exact absurd b1 (by decide)) (fun y => by rw [y] at b1; exact absurd b1 (by decide)) (fun y => by rw [y] at b1; exact absurd b1 (by decide)) (fun y => by rw [y] at b2; exact absurd b2 (by decide)))) (fun y hy => by rw [F2.2.2.1 _ (by decide) (by decide)]; exact i4 y hy) (by rw [F2.2.2.1 _ (by decide) (by decide)]; exact i3) hA2 (bR _ (by decide) (by decide)) (bR _ (by decide) (by decide)) (bR _ (by decide) (by decide)) hkp hkn
  obtain ⟨h3, j, S', r1, r2, r3, r6, r7, r8, r9⟩ := cj_end l G (wt := 0) (b := bb + 1) TL2 N2 O2 nu2 (fun i hi => by rw [tAdd_o (by decide)]; exact z i hi) len'
  have k2e : hK h2 e = 3 := KP_k g1 K12 hEe.1 (by decide)
  have ne := (TL2.2.2.2.2.1.2 n (Nat.lt_succ_self n)).1.1
  rw [up_i, tn4.1] at ne
  have ev : hI h3 fE_number e = S 2 0 := by
    rw [r9 _ _ (by decide) (by decide) (by decide) (by decide), ne]
  refine ⟨h3, S', ?_, r2, r3, r6.1, KP_t K02 r6.2.1, r6.2.2.trans hW2⟩
  rw [← ev]
  exact c_add_ok l G hkH (el_ok T hp) q1 q2 hX.1.2.1 hX.2.1.1 size h24 Ma (KP_k hg K02 hkH (by decide)) r1 r7 (KP_k g2 r6.2.1 k2e (by decide))

theorem cj_rule (l : Launch) (G : Gl) {A : Nat → Nat} {bb n R : Nat} {h : Hp} {S : MM} (H : CJ A h S bb n R) {t a b o y i : Int32} (qi : i = 0 ∨ i = 1) (qp : ptOk t a b) (qo : ¬ (o < 0 ∨ 1 < o)) (qy : ¬ (y < 0 ∨ 2 < y)) (h16 : R < 16) : ∃ (h2 : Hp) (S' : MM), MRw l G yX11_rule (.code yX11_rule cX11_rule 8 (Option.some Jvm.ClassFile.FieldType.int)) 12 30 600 [.ref (A 0), .int t, .int a, .int b, .int o, .int y, .int i] h (.inl (some (.int (nI R)), h2)) ∧ TG (tRule S R t a b o y i) S' ∧ CJ A h2 S' bb n (R + 1) ∧ STY h h2 := by
  obtain ⟨m, D, Ee, is, ss, ra, pa, Dd, Pl, dP, T, N, O, nu, z, len, ky⟩ := H
  have hkH := T.2.1.1.1
  have hRS := N.1.2.1.1
  have size : ∀ {h' : Hp}, TLD A D m h' S n R Ee is ss ra pa Dd Pl dP → MRw l G yX8_size (.code yX8_size cX8_size 1 (Option.some Jvm.ClassFile.FieldType.int)) 1 0 0 [.ref (A 3)] h' (.inl (some (.int (nI R)), h')) := fun {h'} T' => by
    have := c_bookSize l G T'.2.1.2.2.2.1.1 T'.2.1.2.2.2.1.2.1 T'.2.2.1.2.2.2.2.1.1
    rw [T'.2.2.1.2.2.2.2.1.2.1, List.length_map, List.length_range] at this
    exact this
  have gn := gd_nw (k := 6) (n := 0) T.1 (by decide) (by decide)
  have Tn := TLD_old gn OLD_nw T
  have Mi := c_ruleInit l G (h := nw h 6 0) (r := hN h) (n := nI R) (o := o) (y := y) (b := i) (by rw [hK_nw, va_up_self]) (by rw [hN_nw]; omega)
  have gU := nwU_g (n := nI R) (o := o) (y := y) (b := i) T.1
  have FU := nwU_O h (nI R) o y i
  have nU := nwU_N h (nI R) o y i
  obtain ⟨kU1, kU2, kU3, kU4⟩ := nwU_K h (nI R) o y i
  obtain ⟨⟨fU1, fU2, fU3, fU4, fU5⟩, ⟨fU6, fU7⟩, aU, qU⟩ := nwU_f (n := nI R) (o := o) (y := y) (b := i) T.1
  obtain ⟨hU, ehU⟩ : ∃ w, w = nwU h (nI R) o y i := ⟨_, rfl⟩
  have Mi : MRw l G yX7_init (.code yX7_init cX7_init 5 none) 4 2 17 [.ref (hN h), .int (nI R), .int o, .int y, .int i] (nw h 6 0) (.inl (none, hU)) := by rw [ehU]; exact Mi
  rw [← ehU] at gU FU nU kU1 kU2 kU3 kU4 fU1 fU2 fU3 fU4 fU5 fU6 fU7 aU qU
  have g0 := nwP_g (w := 0) (t := t) (a := a) (b := b) gU
  have FP := nwP_O hU 0 t a b
  obtain ⟨v1, v2, v3, v4, v5, v6⟩ := nwP_s hU 0 t a b
  obtain ⟨h0, eh0⟩ : ∃ w, w = nwP hU 0 t a b := ⟨_, rfl⟩
  rw [← eh0] at g0 FP v1 v2 v3 v4 v5 v6
  have F := OLD_t FU FP
  have T0 := TLD_old g0 F T
  obtain ⟨hg0, hX0, ⟨l7, l8, l9, l10, l11, lp⟩, hE0, hT0, ⟨ri, di, hRr⟩, ⟨xs, x1, x2, x3, x4⟩, _⟩ := id T0
  have k0r : hK h0 (hN h) = 6 := KP_k gU FP.1 kU1 (by decide)
  have aP := AL_old gU FP aU
  have p0r : hR h0 fU_parts (hN h) = some (hN h + 1) := by rw [FP.2.2.1 _ _ (by omega)]; exact fU6
  obtain ⟨h', d1, Ma, A1, F1', g'⟩ := c_ruleAppend l G (q := hN hU) g0 k0r p0r aP (by decide) (fun w hw => by cases hw) v2
  have F1 := LF_of F1'
  have ti := tRule_i (S := S) (R := R) (t := t) (a := a) (b := b) (o := o) (y := y) (i := i)
  have wn : hI h0 fU_weightInAll (hN h) + wei h0 (hN hU) = wS (tRule S R t a b o y i) R := by
    rw [wS_uR, wei_p (S := tRule S R t a b o y i) (i := 3 * R) (v4.trans ti.2.2.1.symm) (v5.trans ti.2.2.2.1.symm) (v6.trans ti.2.2.2.2.1.symm), FP.2.1 _ _ (by omega), fU4]
  rw [wn] at Ma
  obtain ⟨h1, eh1⟩ : ∃ w, w = sI h' fU_weightInAll (hN h) (wS (tRule S R t a b o y i) R) := ⟨_, rfl⟩
  rw [← eh1] at Ma
  have g6 := T.1.1
  have n0 : hN h0 = hN h + 4 := by rw [v1, nU]
  have hra : hN h < hN h' := Nat.lt_of_lt_of_le (by omega) F1.1.1
  have g1 : Good h1 := by rw [eh1]; exact gd_sI g' hra
  have K1 : KP h' h1 := by rw [eh1]; exact KP_sI
  have K01 : KP h0 h1 := KP_t F1.1 K1
  have adr : ∀ {l d : Nat} {xs : List Nat}, AL h l d xs → l < hN h ∧ d < hN h := fun {l d xs} H => ⟨(kind_in T.1 H.1 (by decide)).2, AL_dn T.1 H⟩
  obtain ⟨_, _, ⟨m7, m8, m9, m10, m11, mp⟩, _⟩ := id T
  have a10 := adr m10
  have a11 := adr m11
  obtain ⟨⟨e1, e2, e3, e4, e5, e6, e7, e8, e9, e10⟩, pr, _⟩ := ls_pw lp
  have A1h : AL h1 (hN h + 1) d1 ([] ++ [hN hU]) := by rw [eh1]; exact AL_sI (by decide) A1
  have A11 : AL h1 (A 11) (D 11) ((List.range R).map ra) := by rw [eh1]; exact AL_sI (by decide) (LF_AL hg0 F1 l11 (by omega) (fun w => w))
  have A10 : AL h1 (A 10) (D 10) ss := by rw [eh1]; exact AL_sI (by decide) (LF_AL hg0 F1 l10 (by omega) (fun w => w))
  have I1 : ∀ f, f ≠ fA_modCount → f ≠ fA_size → f ≠ fU_weightInAll → hI h1 f = hI h0 f := fun f a1 a2 a3 => by rw [eh1, iI_ne a3]; exact F1.2.2.1 f a1 a2
  have R1 : ∀ f, f ≠ fA_elementData → hR h1 f = hR h0 f := fun f a1 => by rw [eh1, hR_sI]; exact F1.2.2.2.2.1 f a1
  have raN : ∀ q, q < R → ra q < hN h := fun q hq => (kind_in T.1 (T.2.2.2.2.2.1.2.2 q hq).2.2.2.1.1 (by decide)).2
  have hk6 : ∀ w, w ∈ (List.range R).map ra → hK h1 w = 6 := fun w hw => by
    obtain ⟨q, hq, rfl⟩ := List.mem_map.mp hw
    exact KP_k hg0 K01 (hRr q (List.mem_range.mp hq)).2.2.2.1.1 (by decide)
  have hss : ∀ w, w ∈ ss → ∃ q, q < R ∧ w = ra q := fun w hw => by
    rw [x1] at hw
    obtain ⟨q, hq, rfl⟩ := List.mem_map.mp hw
    exact ⟨q, (x2 q).mp hq, rfl⟩
  have k1r : hK h1 (hN h) = 6 := KP_k hg0 K01 k0r (by decide)
  obtain ⟨hm, h2, d2, d3, ii, Mb, B1, G1, gm, B2, G2, g2, hi2, s1, s2⟩ := c_bookAppend l G (r := hN h) (ys := ss) g1 (KP_k hg0 K01 hX0.2.2.2.1.1 (by decide)) (by rw [R1 _ (by decide)]; exact hX0.2.2.2.1.2.1) (by rw [R1 _ (by decide)]; exact hX0.2.2.2.1.2.2) A11 A10 e10.1 e10.2 (by rw [List.length_map, List.length_range]; omega) (by rw [x1, List.length_map]; omega) hk6 (fun w hw => by
    obtain ⟨q, hq, rfl⟩ := hss w hw
    exact hk6 _ (List.mem_map.mpr ⟨q, List.mem_range.mpr hq, rfl⟩)) k1r (List.filter_eq_self.mpr (fun w hw => by
    obtain ⟨q, hq, rfl⟩ := hss w hw
    have := raN q hq
    rw [beq_eq_false_iff_ne.mpr (show ra q ≠ hN h by omega)]
    rfl))
  have I2 : ∀ f, f ≠ fA_modCount → f ≠ fA_size → hI h2 f = hI h1 f := fun f a1 a2 => (G2.2.2.1 f a1 a2).trans (G1.2.2.1 f a1 a2)
  have R2 : ∀ f, f ≠ fA_elementData → hR h2 f = hR h1 f := fun f a1 => (G2.2.2.2.2.1 f a1).trans (G1.2.2.2.2.1 f a1)
  have K02 : KP h0 h2 := KP_t K01 (KP_t G1.1 G2.1)
  have hUf : ∀ f, f ≠ fA_modCount → f ≠ fA_size → f ≠ fU_weightInAll → hI h1 f (hN h) = hI hU f (hN h) := fun f a1 a2 a3 => by rw [I1 f a1 a2 a3, FP.2.1 _ _ (by omega)]
  have fld : ∀ q, q < R + 1 → hI h1 fU_group (up ra R (hN h) q) = gS (tRule S R t a b o y i) q ∧ hI h1 fU_weightInAll (up ra R (hN h) q) = wS (tRule S R t a b o y i) q ∧ hI h1 fU_number (up ra R (hN h) q) = nI q := fun q hq => by
    by_cases w : q = R
    · rw [w, up_i]
      refine ⟨?_, ?_, ?_⟩
      · rw [hUf _ (by decide) (by decide) (by decide), fU3]
        unfold gS
        rw [ti.2.2.2.2.2.1, ti.2.2.2.2.2.2.1, ti.2.2.2.2.2.2.2.1]
      · rw [eh1, iI_at]
      · rw [hUf _ (by decide) (by decide) (by decide), fU2]
    · have hq : q < R := by omega
      obtain ⟨y1, y2, y3, y4, y5⟩ := (hRr q hq).1
      have := raN q hq
      rw [up_n w]
      refine ⟨?_, ?_, ?_⟩
      · rw [I1 _ (by decide) (by decide) (by decide), gS_u w]; exact y2
      · rw [eh1, iI_nb (by omega), F1.2.2.1 _ (by decide) (by decide), wS_u hRS hq]; exact y4
      · rw [I1 _ (by decide) (by decide) (by decide)]; exact y3
  have mss : ss = xs.map (up ra R (hN h)) := by
    rw [x1]
    exact List.map_congr_left (fun q hq => (up_n (by
      have := (x2 q).mp hq
      omega)).symm)
  have pxs : xs.Pairwise (fun p q => stB (tRule S R t a b o y i) p q = true) := List.Pairwise.imp_of_mem (fun {p q} hp hq w => by
    rw [stB_u hRS ((x2 p).mp hp) ((x2 q).mp hq)]
    exact w) x3
  have hi3 : ii ≤ xs.length := by rw [x1, List.length_map] at hi2; exact hi2
  obtain ⟨n1, n2, n3⟩ := ins_s (T := tRule S R t a b o y i) (R := R + 1) (r := R) (xs := xs) (fun q => by
    rw [x2 q]
    constructor
    · intro w
      exact ⟨by omega, by omega⟩
    · rintro ⟨w1, w2⟩
      omega) (Nat.lt_succ_self R) pxs hi3 (fun j q hj hq => by
    have hqR := (x2 q).mp (List.mem_of_getElem? hq)
    have w := s1 j (up ra R (hN h) q) hj (by rw [mss, List.getElem?_map, hq]; rfl)
    rw [← up_i (f := ra) (i := R) (v := hN h)] at w
    exact (sTr_s (by omega) (by omega) (fld q (by omega)) (fld R (by omega))).mp (by rw [up_i] at w ⊢; exact w)) (fun q hq w => by
    have hqR := (x2 q).mp (List.mem_of_getElem? hq)
    have w2 := (sTr_s (by omega) (by omega) (fld q (by omega)) (fld R (by omega))).mpr w
    rw [up_i] at w2
    exact s2 (up ra R (hN h) q) (by rw [mss, List.getElem?_map, hq]; rfl) w2)
  have hxl : xs.length ≤ R := by
    have nd : xs.Nodup := List.Pairwise.imp (R := fun p q => stB S p q = true) (S := fun p q => p ≠ q) (fun {p q} w e => by
      subst e
      exact stB_irr w) x3
    exact nd_len R xs nd (fun q hq => (x2 q).mp hq)
  have hSS : SSo (tRule S R t a b o y i) (R + 1) (up ra R (hN h)) (ss.take ii ++ hN h :: ss.drop ii) := ⟨xs.take ii ++ R :: xs.drop ii, by rw [mss, List.map_append, List.map_cons, List.map_take, List.map_drop, up_i], n1, n2, by omega⟩
  have A2h := LF_AL gm G2 B1 (fun w => e10.1 w.symm) (fun w => by
    rcases G1.2.1 with w2 | w2
    · rw [w2] at w ⊢
      rw [w]
      exact e10.2 w.symm
    · have := a10.2
      have := K01.1
      omega)
  have dlow : d1 = 4 ∨ hN h0 ≤ d1 := F1.2.1
  have A1m := LF_AL g1 G1 A1h (show hN h + 1 ≠ A 11 by omega) (fun w => by
    rcases dlow with w2 | w2
    · exact w2
    · have := a11.2
      omega)
  have A1e := LF_AL gm G2 A1m (show hN h + 1 ≠ A 10 by omega) (fun w => by
    rcases dlow with w2 | w2
    · exact w2
    · have := a10.2
      omega)
  have d1n : hN h0 ≤ d1 := dlow.resolve_left (fun e => by
    rcases A1.2.2.2.2 with w | w
    · cases w.2
    · omega)
  have fQ2 : ∀ x, x < hN h0 → x ≠ D 11 → x ≠ D 10 → hQ h2 x = hQ h0 x := fun x w1 w3 w4 => by
    rw [G2.2.2.2.2.2.2.2.2 x (Nat.lt_of_lt_of_le (Nat.lt_of_lt_of_le w1 K01.1) G1.1.1) w4, G1.2.2.2.2.2.2.2.2 x (Nat.lt_of_lt_of_le w1 K01.1) w3, eh1, hQ_sI]
    exact F1'.2.2.2.2.2.2.2 x (by omega)
  have k2 : ∀ x k, x < hN hU → hK hU x = k → k ≠ 999 → hK h2 x = k := fun x k w1 w2 w3 => KP_k gU (KP_t FP.1 K02) w2 w3
  have hru : TR1 (tRule S R t a b o y i) h2 (up ra R (hN h)) (paU pa R 0 (hN hU)) (up Dd R (hN h + 2)) (up Pl R (hN h + 1)) (up dP R d1) R := by
    have t1 : tn (1 : Int32) = 1 := rfl
    unfold TR1
    rw [up_i, up_i, up_i, up_i, ti.2.1, t1]
    refine ⟨⟨?_, ?_, ?_, ?_, ?_⟩, ⟨?_, (by rw [show (List.range 1).map (paU pa R 0 (hN hU) R) = [hN hU] from (by show [paU pa R 0 (hN hU) R 0] = _; rw [paU_i])]; exact A1e)⟩, fun k hk => ?_, ⟨k2 _ _ (by omega) kU1 (by decide), ?_, k2 _ _ (by omega) kU3 (by decide), ?_⟩, fun p hp => ?_⟩
    · rw [I2 _ (by decide) (by decide), hUf _ (by decide) (by decide) (by decide), fU1, ti.2.2.2.2.2.2.2.2]
    · have := (fld R (by omega)).1
      rw [up_i] at this
      rw [I2 _ (by decide) (by decide)]
      exact this
    · have := (fld R (by omega)).2.2
      rw [up_i] at this
      rw [I2 _ (by decide) (by decide)]
      exact this
    · have := (fld R (by omega)).2.1
      rw [up_i] at this
      rw [I2 _ (by decide) (by decide)]
      exact this
    · rw [I2 _ (by decide) (by decide), hUf _ (by decide) (by decide) (by decide), fU5, cn_0 14 (fun p hp => by
        unfold dclS
        rw [tRule_o (by decide), z _ (by omega)]
        rfl)]
      rfl
    · rw [R2 _ (by decide), R1 _ (by decide)]
      exact p0r
    · have : k = 0 := by omega
      subst this
      rw [paU_i, Nat.add_zero, ti.2.2.1, ti.2.2.2.1, ti.2.2.2.2.1, I2 _ (by decide) (by decide), I2 _ (by decide) (by decide), I2 _ (by decide) (by decide), I1 _ (by decide) (by decide) (by decide), I1 _ (by decide) (by decide) (by decide), I1 _ (by decide) (by decide) (by decide)]
      exact ⟨KP_k hg0 K02 v2 (by decide), v4, v5, v6, fun w => absurd w (Nat.lt_irrefl 0)⟩
    · rw [R2 _ (by decide), R1 _ (by decide), FP.2.2.1 _ _ (by omega)]
      exact fU7
    · rw [KP_l gU (KP_t FP.1 K02) kU3 (by decide)]
      exact kU4
    · have e0 : hQ h2 (hN h + 2) p = none := by
        rw [fQ2 _ (by omega) (by omega) (by omega), FP.2.2.2.1 _ (by omega)]
        exact qU p
      rw [e0]
      refine ⟨fun d hd => (by cases hd), ?_⟩
      show tRule S R t a b o y i 20 (14 * R + p) = 0
      rw [tRule_o (by decide)]
      exact z _ (by omega)
  have K2h : KP h h2 := KP_t F.1 K02
  have TL2 := TLD_ru (N1 := hN h1) (N2 := hN hm) T hRS z g2 K2h (fun f x w1 w2 w3 => by
    rw [I2 f w1 w2, eh1, iI_nb (show x ≠ hN h by omega), F1.2.2.1 f w1 w2]
    exact F.2.1 f x w3) (fun x w1 w2 w3 => by
    rw [G2.2.2.2.1 _ _ w3, G1.2.2.2.1 _ _ w2, eh1, iI_ne (by decide), F1.2.2.2.1 _ _ (show x ≠ hN h + 1 by omega)]
    exact F.2.1 _ x w1) (fun f x w1 w2 => by
    rw [R2 f w1, R1 f w1]
    exact F.2.2.1 f x w2) (fun x w1 w2 w3 => by
    rw [G2.2.2.2.2.2.1 _ _ w3, G1.2.2.2.2.2.1 _ _ w2, eh1, hR_sI, F1.2.2.2.2.2.1 _ _ (show x ≠ hN h + 1 by omega)]
    exact F.2.2.1 _ x w1) (fun x w1 w2 w3 => by
    rw [fQ2 x (by omega) w2 w3]
    exact F.2.2.2.1 x w1) ⟨Nat.le_refl _, by omega, by omega, by have := K01.1; omega⟩ hru A2h B2 (dlow.elim Or.inl (fun w => Or.inr (by omega))) ⟨by have := K01.1; omega, AL_dn g1 A1h⟩ G1.2.1 ⟨G1.1.1, AL_dn gm B1⟩ G2.2.1 hSS
  have N1 := TNR_ru (t := t) (a := a) (b := b) (o := o) (y := y) (i := i) h16 qp qo qy qi z N
  have hA2 : hA h2 = hA h0 := by rw [G2.2.2.2.2.2.2.1, G1.2.2.2.2.2.2.1, eh1, hA_sI]; exact F1.2.2.2.2.2.2.1
  have hW2 : hW h2 = hW h0 := by rw [G2.2.2.2.2.2.2.2.1, G1.2.2.2.2.2.2.2.1, eh1, hW_sI]; exact F1.2.2.2.2.2.2.2.1
  have I3 : ∀ f, f ≠ fA_modCount → f ≠ fA_size → f ≠ fU_weightInAll → hI h2 f = hI h0 f := fun f a1 a2 a3 => (I2 f a1 a2).trans (I1 f a1 a2 a3)
  have R3 : ∀ f, f ≠ fA_elementData → hR h2 f = hR h0 f := fun f a1 => (R2 f a1).trans (R1 f a1)
  have O2 := KO_f (fun g b1 b2 => I3 g (fun y => by rw [y] at b1; exact absurd b1 (by decide)) (fun y => by rw [y] at b1; exact absurd b1 (by decide)) (fun y => by rw [y] at b2; exact absurd b2 (by decide))) (R3 _ (by decide)) (R3 _ (by decide)) (R3 _ (by decide)) hA2 (KO_old T.1 F (fun e he => T.2.2.2.1.2.1 _ (Ee_m he)) O)
  have nuT : NM (tRule S R t a b o y i) n bb := by
    unfold NM at *
    rw [tRule_o (by decide), tRule_o (by decide)]
    exact nu
  obtain ⟨h3', j, S', a1, a2, a3, a6, a7, a8, a9⟩ := cj_end l G (wt := 0) (b := bb) TL2 N1 O2 nuT (fun i hi2 => by rw [tRule_o (by decide)]; exact z i (by omega)) len
  have hT2 := TL2.2.2.2.2.2.1.2.2 R (Nat.lt_succ_self R)
  have kk := hT2.2.2.2.1.1
  have kn := hT2.1.2.2.1
  rw [up_i] at kk kn
  have hk3 : hK h3' (hN h) = 6 := KP_k g2 a6.2.1 kk (by decide)
  rw [eh0] at Ma
  have ev : hI h3' fU_number (hN h) = nI R := by
    rw [a9 _ _ (by decide) (by decide) (by decide) (by decide), kn]
  refine ⟨h3', S', ?_, a2, a3, a6.1, KP_t K2h a6.2.1, ?_⟩
  · rw [← ev]
    exact c_rule_ok l G hkH T.2.1.1.2.2.2 T.2.1.2.2.2.1.1 qp qo qy qi (size T) h16 (size Tn) Tn.2.1.1.1 Tn.2.1.2.2.2.1.1 Mi Ma (by rw [← eh0]; exact k0r) (KP_k hg0 K01 hX0.1.1 (by decide)) (by rw [R1 _ (by decide)]; exact hX0.1.2.2.2) (KP_k hg0 K01 hX0.2.2.2.1.1 (by decide)) Mb TL2.2.1.1.1 a1 a7 hk3
  · rw [a6.2.2, hW2, F.2.2.2.2.2]
