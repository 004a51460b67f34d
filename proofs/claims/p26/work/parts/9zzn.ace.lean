/-! ===== one more element: its cells ===== -/
theorem bgE_n {h : Hp} {e kp x f : Nat} {a b c : Int32} (hx : x ≠ e) : hR (bgE h e kp a b c) f x = hR h f x := by
  unfold bgE
  rw [hR_sI, rR_nb hx, rR_nb hx, rR_nb hx, rR_nb hx, rR_nb hx, hR_sI, hR_sI, hR_sI, hR_sI, hR_sI]
theorem bgE_z {h : Hp} {e kp : Nat} {a b c : Int32} : hR (bgE h e kp a b c) fE_next e = none ∧ hR (bgE h e kp a b c) fE_first e = none ∧ hR (bgE h e kp a b c) fE_last e = none := by
  unfold bgE
  refine ⟨?_, ?_, ?_⟩
  · rw [hR_sI, rR_ne (by decide), rR_ne (by decide), rR_at]
  · rw [hR_sI, rR_ne (by decide), rR_at]
  · rw [hR_sI, rR_at]
theorem lkC_n {h : Hp} {t e kp p x f : Nat} {a b : Int32} (hx : x ≠ e) : hR (lkC h t e kp p a b) f x = hR h f x := by
  unfold lkC
  rw [rR_nb hx, rR_nb hx, hR_sI, bgE_n hx]
theorem lkC_e {h : Hp} {t e kp p : Nat} {a b : Int32} : hR (lkC h t e kp p a b) fE_parent e = some p ∧ hR (lkC h t e kp p a b) fE_ahead e = hR h fE_last p ∧ hR (lkC h t e kp p a b) fE_next e = none ∧ hR (lkC h t e kp p a b) fE_first e = none ∧ hR (lkC h t e kp p a b) fE_last e = none := by
  unfold lkC
  refine ⟨?_, ?_, ?_, ?_, ?_⟩
  · rw [rR_ne (by decide), rR_at]
  · rw [rR_at]
  · rw [rR_ne (by decide), rR_ne (by decide), hR_sI, bgE_z.1]
  · rw [rR_ne (by decide), rR_ne (by decide), hR_sI, bgE_z.2.1]
  · rw [rR_ne (by decide), rR_ne (by decide), hR_sI, bgE_z.2.2]
theorem lkA_lk {h : Hp} {t e kp p : Nat} {a b : Int32} (hpe : p ≠ e) (hqe : hR h fE_last p ≠ some e) :
    (hR (lkA h t e kp p a b) fE_parent e = some p ∧ hR (lkA h t e kp p a b) fE_ahead e = hR h fE_last p ∧ hR (lkA h t e kp p a b) fE_next e = none ∧ hR (lkA h t e kp p a b) fE_first e = none ∧ hR (lkA h t e kp p a b) fE_last e = none) ∧
    ∀ x, x ≠ e → hR (lkA h t e kp p a b) fE_parent x = hR h fE_parent x ∧ hR (lkA h t e kp p a b) fE_ahead x = hR h fE_ahead x ∧ hR (lkA h t e kp p a b) fE_next x = (if hR h fE_last p = some x then some e else hR h fE_next x) ∧
      hR (lkA h t e kp p a b) fE_first x = (if x = p ∧ hR h fE_last p = none then some e else hR h fE_first x) ∧ hR (lkA h t e kp p a b) fE_last x = (if x = p then some e else hR h fE_last x) := by
  obtain ⟨c1, c2, c3, c4, c5⟩ := lkC_e (h := h) (t := t) (e := e) (kp := kp) (p := p) (a := a) (b := b)
  have hep : e ≠ p := fun z => hpe z.symm
  cases hl : hR h fE_last p with
  | none =>
    rw [hl] at c2
    have eG : lkA h t e kp p a b = sR (sR (lkC h t e kp p a b) fE_first p (some e)) fE_last p (some e) := by
      unfold lkA lkB
      rw [hl]
    rw [eG]
    refine ⟨⟨?_, ?_, ?_, ?_, ?_⟩, fun x hx => ⟨?_, ?_, ?_, ?_, ?_⟩⟩
    · rw [rR_ne (by decide), rR_ne (by decide), c1]
    · rw [rR_ne (by decide), rR_ne (by decide), c2]
    · rw [rR_ne (by decide), rR_ne (by decide), c3]
    · rw [rR_ne (by decide), rR_nb hep, c4]
    · rw [rR_nb hep, rR_ne (by decide), c5]
    · rw [rR_ne (by decide), rR_ne (by decide), lkC_n hx]
    · rw [rR_ne (by decide), rR_ne (by decide), lkC_n hx]
    · rw [rR_ne (by decide), rR_ne (by decide), lkC_n hx, if_neg (show ¬ (none : Option Nat) = some x from fun w => by cases w)]
    · by_cases z : x = p
      · subst z
        rw [rR_ne (by decide), rR_at, if_pos ⟨rfl, rfl⟩]
      · rw [rR_ne (by decide), rR_nb z, lkC_n hx, if_neg (show ¬ (x = p ∧ (none : Option Nat) = none) from fun w => z w.1)]
    · by_cases z : x = p
      · subst z
        rw [rR_at, if_pos rfl]
      · rw [rR_nb z, rR_ne (by decide), lkC_n hx, if_neg z]
  | some q =>
    rw [hl] at c2 hqe
    have heq : e ≠ q := fun z => hqe (by rw [z])
    have eG : lkA h t e kp p a b = sR (sR (lkC h t e kp p a b) fE_next q (some e)) fE_last p (some e) := by
      unfold lkA lkB
      rw [hl]
    rw [eG]
    refine ⟨⟨?_, ?_, ?_, ?_, ?_⟩, fun x hx => ⟨?_, ?_, ?_, ?_, ?_⟩⟩
    · rw [rR_ne (by decide), rR_ne (by decide), c1]
    · rw [rR_ne (by decide), rR_ne (by decide), c2]
    · rw [rR_ne (by decide), rR_nb heq, c3]
    · rw [rR_ne (by decide), rR_ne (by decide), c4]
    · rw [rR_nb hep, rR_ne (by decide), c5]
    · rw [rR_ne (by decide), rR_ne (by decide), lkC_n hx]
    · rw [rR_ne (by decide), rR_ne (by decide), lkC_n hx]
    · by_cases z : x = q
      · subst z
        rw [rR_ne (by decide), rR_at, if_pos rfl]
      · rw [rR_ne (by decide), rR_nb z, lkC_n hx, if_neg (show ¬ some q = some x from fun w => z (Option.some.inj w).symm)]
    · rw [rR_ne (by decide), rR_ne (by decide), lkC_n hx, if_neg (show ¬ (x = p ∧ some q = none) from fun w => by cases w.2)]
    · by_cases z : x = p
      · subst z
        rw [rR_at, if_pos rfl]
      · rw [rR_nb z, rR_ne (by decide), lkC_n hx, if_neg z]
theorem lkA_hI {h : Hp} {t e kp p : Nat} {a b : Int32} : hI (lkA h t e kp p a b) = hI (sI (bgE h e kp (hI h fT_nextNumber t) a b) fT_nextNumber t (hI h fT_nextNumber t + 1)) := by
  unfold lkA
  rw [hI_sR, (lkB_s h (lkC h t e kp p a b) e p).2.2.2.1]
  unfold lkC
  rw [hI_sR, hI_sR]
theorem lkA_i {h : Hp} {t e kp p : Nat} {a b : Int32} : (hI (lkA h t e kp p a b) fE_number e = hI h fT_nextNumber t ∧ hI (lkA h t e kp p a b) fE_tag e = a ∧ hI (lkA h t e kp p a b) fE_classes e = b ∧ hI (lkA h t e kp p a b) fE_words e = 0 ∧ hI (lkA h t e kp p a b) fE_isContainer e = 0) ∧
    (∀ f x, 192 ≤ f → f ≤ 196 → x ≠ e → hI (lkA h t e kp p a b) f x = hI h f x) ∧ hI (lkA h t e kp p a b) fL_isKnown kp = 0 ∧ (∀ x, x ≠ kp → hI (lkA h t e kp p a b) fL_isKnown x = hI h fL_isKnown x) ∧ hI (lkA h t e kp p a b) fT_nextNumber t = hI h fT_nextNumber t + 1 := by
  rw [lkA_hI]
  have k1 : (196 : Nat) < fL_isKnown := by decide
  have k2 : (196 : Nat) < fT_nextNumber := by decide
  refine ⟨⟨?_, ?_, ?_, ?_, ?_⟩, fun f x h1 h2 hx => ?_, ?_, fun x hx => ?_, ?_⟩
  · rw [iI_ne (by decide)]
    unfold bgE
    rw [iI_ne (by decide), hI_sR, hI_sR, hI_sR, hI_sR, hI_sR, iI_ne (by decide), iI_ne (by decide), iI_ne (by decide), iI_ne (by decide), iI_at]
  · rw [iI_ne (by decide)]
    unfold bgE
    rw [iI_ne (by decide), hI_sR, hI_sR, hI_sR, hI_sR, hI_sR, iI_ne (by decide), iI_ne (by decide), iI_ne (by decide), iI_at]
  · rw [iI_ne (by decide)]
    unfold bgE
    rw [iI_ne (by decide), hI_sR, hI_sR, hI_sR, hI_sR, hI_sR, iI_ne (by decide), iI_ne (by decide), iI_at]
  · rw [iI_ne (by decide)]
    unfold bgE
    rw [iI_ne (by decide), hI_sR, hI_sR, hI_sR, hI_sR, hI_sR, iI_ne (by decide), iI_at]
  · rw [iI_ne (by decide)]
    unfold bgE
    rw [iI_ne (by decide), hI_sR, hI_sR, hI_sR, hI_sR, hI_sR, iI_at]
  · rw [iI_ne (by omega)]
    unfold bgE
    rw [iI_ne (by omega), hI_sR, hI_sR, hI_sR, hI_sR, hI_sR, iI_nb hx, iI_nb hx, iI_nb hx, iI_nb hx, iI_nb hx]
  · rw [iI_ne (by decide)]
    unfold bgE
    rw [iI_at]
  · rw [iI_ne (by decide)]
    unfold bgE
    rw [iI_nb hx, hI_sR, hI_sR, hI_sR, hI_sR, hI_sR, iI_ne (by decide), iI_ne (by decide), iI_ne (by decide), iI_ne (by decide), iI_ne (by decide)]
  · rw [iI_at]
theorem gl_e {S : MM} {n p a : Nat} {Ee : Nat → Nat} (hi : inj n Ee) (ha : a < n) : ((chl S n p).getLast?).map Ee = some (Ee a) ↔ (chl S n p).getLast? = some a := by
  cases ho : (chl S n p).getLast? with
  | none => exact ⟨fun z => (by cases z), fun z => (by cases z)⟩
  | some b =>
    have hb := gl_lt ho
    constructor
    · intro z
      rw [hi b hb a ha (Option.some.inj z)]
    · intro z
      rw [Option.some.inj z]
      rfl
theorem gl_e0 {o : Option Nat} {Ee : Nat → Nat} : o.map Ee = none ↔ o = none := by
  cases o with
  | none => exact ⟨fun _ => rfl, fun _ => rfl⟩
  | some b => exact ⟨fun z => (by cases z), fun z => (by cases z)⟩
/-- the told of the tree with one more element -/
theorem TEL_ad {S : MM} {n p e t kp : Nat} {h1 h2 : Hp} {Ee : Nat → Nat} {a b : Int32} (hS : TS S n) (hp : p < n) (hn : n < 24) (H : TEL S n h1 Ee) (he : ∀ i, i < n → Ee i ≠ e) (s2 : hI h1 fT_nextNumber t = S 2 0)
    (fI : ∀ f, f ≠ fA_modCount → f ≠ fA_size → hI h2 f = hI (lkA h1 t e kp (Ee p) a b) f) (fR : ∀ f, f ≠ fA_elementData → hR h2 f = hR (lkA h1 t e kp (Ee p) a b) f) : TEL (tAdd S n p a b) (n + 1) h2 (up Ee n e) := by
  obtain ⟨hi, hT⟩ := H
  obtain ⟨⟨t4, t5, t6, t7, t8, t9⟩, _, _⟩ := tAdd_n (S := S) (n := n) (p := p) (t := a) (c := b)
  have tp : par (tAdd S n p a b) n = some p := tAdd_pn (by omega)
  obtain ⟨⟨n1, n2, n3, n4⟩, ol⟩ := tAdd_lk (t := a) (c := b) hS hp hn
  have hl : hR h1 fE_last (Ee p) = ((chl S n p).getLast?).map Ee := (hT p hp).2.2.2.2.2
  obtain ⟨⟨l1, l2, l3, l4, l5⟩, lx⟩ := lkA_lk (h := h1) (t := t) (e := e) (kp := kp) (p := Ee p) (a := a) (b := b) (he p hp) (by
    rw [hl]
    cases ho : (chl S n p).getLast? with
    | none => exact fun z => (by cases z)
    | some c => exact fun z => he c (gl_lt ho) (Option.some.inj z))
  obtain ⟨⟨i1, i2, i3, i4, i5⟩, ix1, _⟩ := lkA_i (h := h1) (t := t) (e := e) (kp := kp) (p := Ee p) (a := a) (b := b)
  have upm : ∀ {o : Option Nat}, (∀ c, o = some c → c < n) → o.map (up Ee n e) = o.map Ee := fun {o} ho => omap_c (fun c hc => up_n (by
    have := ho c hc
    omega))
  refine ⟨inj_up hi he, fun i hi2 => ?_⟩
  by_cases z : i = n
  · rw [z, up_i, fI _ (by decide) (by decide), fI _ (by decide) (by decide), fI _ (by decide) (by decide), fI _ (by decide) (by decide), fI _ (by decide) (by decide), fR _ (by decide), fR _ (by decide), fR _ (by decide), fR _ (by decide), fR _ (by decide), i1, i2, i3, i4, i5, l1, l2, l3, l4, l5, t4, t6, t7, t8, t9, tp, n1, n2, n3, n4, hl]
    refine ⟨⟨s2, rfl, rfl, rfl, rfl⟩, ?_, ?_, rfl, rfl, rfl⟩
    · show some (Ee p) = some (up Ee n e p)
      rw [up_n (by omega)]
    · exact (upm (fun c hc => gl_lt hc)).symm
  · have hin : i < n := by omega
    obtain ⟨⟨j1, j2, j3, j4, j5⟩, j6, j7, j8, j9, j10⟩ := hT i hin
    obtain ⟨x1, x2, x3, x4, x5⟩ := lx (Ee i) (he i hin)
    obtain ⟨o1, o2, o3, o4⟩ := ol i hin
    rw [up_n z, fI _ (by decide) (by decide), fI _ (by decide) (by decide), fI _ (by decide) (by decide), fI _ (by decide) (by decide), fI _ (by decide) (by decide), fR _ (by decide), fR _ (by decide), fR _ (by decide), fR _ (by decide), fR _ (by decide), x1, x2, x3, x4, x5, ix1 _ _ (by decide) (by decide) (he i hin), ix1 _ _ (by decide) (by decide) (he i hin), ix1 _ _ (by decide) (by decide) (he i hin), ix1 _ _ (by decide) (by decide) (he i hin), ix1 _ _ (by decide) (by decide) (he i hin), tAdd_l (by decide) z, tAdd_l (by decide) z, tAdd_l (by decide) z, tAdd_l (by decide) z, tAdd_l (by decide) z, tAdd_par z, o1, o2, o3, o4, hl, j6, j7, j8, j9, j10]
    refine ⟨⟨j1, j2, j3, j4, j5⟩, ?_, ?_, ?_, ?_, ?_⟩
    · exact (upm (fun c hc => ((par_S hS hin).2 c hc).2)).symm
    · exact (upm (fun c hc => Nat.lt_trans (ahS_lt hc) hin)).symm
    · unfold nxA
      by_cases y : (chl S n p).getLast? = some i
      · rw [if_pos y, if_pos ((gl_e hi hin).mpr y)]
        show some e = some (up Ee n e n)
        rw [up_i]
      · rw [if_neg y, if_neg (fun w => y ((gl_e hi hin).mp w))]
        exact (upm (fun c hc => nx_lt hc)).symm
    · unfold hdA
      by_cases y : i = p ∧ (chl S n p).getLast? = none
      · rw [if_pos y, if_pos ⟨by rw [y.1], gl_e0.mpr y.2⟩]
        show some e = some (up Ee n e n)
        rw [up_i]
      · rw [if_neg y, if_neg (fun w => y ⟨hi i hin p hp w.1, gl_e0.mp w.2⟩)]
        exact (upm (fun c hc => hd_lt hc)).symm
    · unfold glA
      by_cases y : i = p
      · rw [if_pos y, if_pos (by rw [y])]
        show some e = some (up Ee n e n)
        rw [up_i]
      · rw [if_neg y, if_neg (fun w => y (hi i hin p hp w))]
        exact (upm (fun c hc => gl_lt hc)).symm
