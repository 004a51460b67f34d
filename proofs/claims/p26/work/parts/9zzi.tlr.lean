/-! ===== a new rule: what is told in the heap ===== -/
theorem TLD_ru {A D : Nat → Nat} {m : Nat} {h h2 : Hp} {S : MM} {n R q rN d1 d2 d3 N1 N2 Dn Pn : Nat} {t a b o y i : Int32} {Ee : Nat → Nat} {is ss ss' : List Nat} {ra : Nat → Nat} {pa : Nat → Nat → Nat} {Dd Pl dP : Nat → Nat} (T : TLD A D m h S n R Ee is ss ra pa Dd Pl dP) (hRS : RSo S R) (z20 : ∀ j, 14 * R ≤ j → S 20 j = 0)
    (g2 : Good h2) (K : KP h h2) (fI : ∀ f x, f ≠ fA_modCount → f ≠ fA_size → x < hN h → hI h2 f x = hI h f x) (fS : ∀ x, x < hN h → x ≠ A 11 → x ≠ A 10 → hI h2 fA_size x = hI h fA_size x)
    (fR : ∀ f x, f ≠ fA_elementData → x < hN h → hR h2 f x = hR h f x) (fE : ∀ x, x < hN h → x ≠ A 11 → x ≠ A 10 → hR h2 fA_elementData x = hR h fA_elementData x) (fQ : ∀ x, x < hN h → x ≠ D 11 → x ≠ D 10 → hQ h2 x = hQ h x)
    (nw1 : hN h ≤ rN ∧ hN h ≤ Dn ∧ hN h ≤ Pn ∧ Pn < N1) (hru : TR1 (tRule S R t a b o y i) h2 (up ra R rN) (paU pa R 0 q) (up Dd R Dn) (up Pl R Pn) (up dP R d1) R)
    (A2 : AL h2 (A 11) d2 ((List.range R).map ra ++ [rN])) (A3 : AL h2 (A 10) d3 ss') (hd1 : d1 = 4 ∨ hN h ≤ d1) (hN1 : hN h ≤ N1 ∧ d1 < N1) (hd2 : d2 = D 11 ∨ N1 ≤ d2) (hN2 : N1 ≤ N2 ∧ d2 < N2) (hd3 : d3 = D 10 ∨ N2 ≤ d3) (hs : SSo (tRule S R t a b o y i) (R + 1) (up ra R rN) ss') :
    TLD A (up (up D 11 d2) 10 d3) m h2 (tRule S R t a b o y i) n (R + 1) Ee is ss' (up ra R rN) (paU pa R 0 q) (up Dd R Dn) (up Pl R Pn) (up dP R d1) := by
  have hlad := lad_n T
  have hEn : ∀ e, e < n → Ee e < hN h := fun e he => Ee_n T he
  obtain ⟨hg, hX, ⟨l7, l8, ⟨⟨xs, l9⟩, cp⟩, l10, l11, lp⟩, hE, hT, ⟨ri, di, hRr⟩, hx, s1, s2⟩ := T
  obtain ⟨⟨p1, p2, p3, p4, p5, p6, p7, p8, p9, p10⟩, pr, _⟩ := ls_pw lp
  have alf : ∀ {l d : Nat} {xs : List Nat}, AL h l d xs → l ≠ A 11 → l ≠ A 10 → (d = D 11 → d = 4) → (d = D 10 → d = 4) → AL h2 l d xs := fun {l d xs} H n1 n2 n3 n4 => AL_f hg K (fS l (kind_in hg H.1 (by decide)).2 n1 n2) (fE l (kind_in hg H.1 (by decide)).2 n1 n2) (fun n5 k => fQ d (kind_in hg k (by decide)).2 (fun z => n5 (n3 z)) (fun z => n5 (n4 z))) H
  obtain ⟨up1, up2⟩ := lad_up (A := A) (Pl := Pl) (R := R) (v := Pn)
  obtain ⟨uq1, uq2⟩ := lad_up (A := D) (Pl := dP) (R := R) (v := d1)
  have lp0 : (lsA A D (R + 1) (up Pl R Pn) (up dP R d1)).Pairwise pw := pw_new (N := hN h) lp (fun i hi => ⟨(hlad i hi).1, (hlad i hi).2.1⟩) (fun i hi => ⟨up1 i hi, uq1 i hi⟩) (by rw [up2]; omega) (by rw [uq2]; exact hd1)
  have n1 : ∀ i, i < R + 1 + 5 → lad D (up dP R d1) i < N1 := fun i hi => by
    by_cases z : i = R + 5
    · rw [z, uq2]
      exact hN1.2
    · have := (hlad i (by omega)).1
      rw [uq1 i (by omega)]
      omega
  have lp1 : (lsA A (up D 11 d2) (R + 1) (up Pl R Pn) (up dP R d1)).Pairwise pw := pw_up (k := 4) (N := N1) lp0 n1 (fun i hi hne => by
    unfold lad
    by_cases z : i < 5
    · rw [if_pos z, if_pos z, up_n (by omega)]
    · rw [if_neg z, if_neg z]) (by
    unfold lad
    rw [if_pos (by decide), if_pos (by decide), show 7 + 4 = 11 from rfl, up_i]
    exact hd2)
  have lp2 : (lsA A (up (up D 11 d2) 10 d3) (R + 1) (up Pl R Pn) (up dP R d1)).Pairwise pw := pw_up (k := 3) (N := N2) lp1 (fun i hi => by
    have := n1 i hi
    unfold lad at this ⊢
    by_cases z : i < 5
    · rw [if_pos z] at this ⊢
      by_cases y : 7 + i = 11
      · rw [y, up_i]
        exact hN2.2
      · rw [up_n y]
        omega
    · rw [if_neg z] at this ⊢
      omega) (fun i hi hne => by
    unfold lad
    by_cases z : i < 5
    · rw [if_pos z, if_pos z, up_n (by omega)]
    · rw [if_neg z, if_neg z]) (by
    unfold lad
    rw [if_pos (by decide), if_pos (by decide), show 7 + 3 = 10 from rfl, up_i, up_n (by decide)]
    exact hd3)
  have ge : EU S (tRule S R t a b o y i) := fun k k1 k2 => tRule_o (by omega)
  have raN : ∀ e, e < R → ra e < hN h := fun e he => (kind_in hg (hRr e he).2.2.2.1.1 (by decide)).2
  have DdN : ∀ e, e < R → Dd e < hN h := fun e he => (kind_in hg (hRr e he).2.2.2.1.2.2.1 (by decide)).2
  refine ⟨g2, ?_, ⟨?_, ?_, ⟨⟨xs, ?_⟩, ?_⟩, ?_, ?_, lp2⟩, ?_, ?_, ⟨inj_up ri (fun e he z => ?_), inj_up di (fun e he z => ?_), fun r' hr' => ?_⟩, hs, ?_, ?_⟩
  · exact FXD_x hg ⟨K, fR⟩ hX
  · rw [up_n (by decide), up_n (by decide)]
    exact alf l7 p4.1 p3.1 p4.2 p3.2
  · rw [up_n (by decide), up_n (by decide)]
    exact alf l8 p7.1 p6.1 p7.2 p6.2
  · rw [up_n (by decide), up_n (by decide)]
    exact alf l9 p9.1 p8.1 p9.2 p8.2
  · rw [up_n (by decide), up_n (by decide)]
    unfold CP at *
    rcases AL_dk l9 with y | y
    · exact Or.inl y
    · rw [KP_l hg K y.2 (by decide)]
      exact cp
  · rw [up_i]
    exact A3
  · rw [up_n (by decide), up_i, map_up]
    exact A2
  · exact ELS_x hg ⟨K, fR⟩ hE
  · exact TEL_e ge (TEL_x ⟨K, fR⟩ fI hEn hT)
  · have := raN e he
    omega
  · have := DdN e he
    omega
  · by_cases z : r' = R
    · rw [z]
      exact hru
    · have hr' : r' < R := by omega
      have H := hRr r' hr'
      obtain ⟨⟨u1, u2', u3, u4, u5⟩, ⟨q1, q2⟩, q3, q4, q5⟩ := H
      obtain ⟨s7, s8, s9, s10, s11⟩ := pr r' hr'
      have nr := raN r' hr'
      have nd := DdN r' hr'
      obtain ⟨e, f1, f2, f3, _⟩ := hRS.2.2 r' hr'
      have e11 : tRule S R t a b o y i 11 r' = S 11 r' := tRule_q (by decide) z
      have ep : paU pa R 0 q r' = pa r' := funext fun k => paU_n (fun y => z y.1)
      unfold TR1
      rw [up_n z, up_n z, up_n z, up_n z, ep, e11]
      refine ⟨⟨?_, ?_, ?_, ?_, ?_⟩, ⟨?_, ?_⟩, fun k hk => ?_, ⟨KP_k hg K q4.1 (by decide), ?_, KP_k hg K q4.2.2.1 (by decide), ?_⟩, fun p hp => ?_⟩
      · rw [fI _ _ (by decide) (by decide) nr, tRule_q (by decide) z]; exact u1
      · rw [fI _ _ (by decide) (by decide) nr, gS_u z]; exact u2'
      · rw [fI _ _ (by decide) (by decide) nr]; exact u3
      · rw [fI _ _ (by decide) (by decide) nr, wS_u hRS hr']; exact u4
      · rw [fI _ _ (by decide) (by decide) nr, u5, cn_c 14 (fun p _ => by
          show dclS S r' p = dclS (tRule S R t a b o y i) r' p
          unfold dclS
          rw [tRule_o (by decide)])]
      · rw [fR _ _ (by decide) nr]; exact q1
      · exact alf q2 (fun y => s11.1 y.symm) (fun y => s10.1 y.symm) (fun y => by rw [y]; exact s11.2 y.symm) (fun y => by rw [y]; exact s10.2 y.symm)
      · obtain ⟨x1, x2, x3, x4, x5⟩ := q3 k hk
        rw [f1, tn_nI (by omega)] at hk
        have nq := (kind_in hg x1 (by decide)).2
        rw [fI _ _ (by decide) (by decide) nq, fI _ _ (by decide) (by decide) nq, fI _ _ (by decide) (by decide) nq, fI _ _ (by decide) (by decide) nq, tRule_p (by decide) (by omega), tRule_p (by decide) (by omega), tRule_p (by decide) (by omega), tRule_p (by decide) (by omega)]
        exact ⟨KP_k hg K x1 (by decide), x2, x3, x4, x5⟩
      · rw [fR _ _ (by decide) nr]; exact q4.2.1
      · rw [KP_l hg K q4.2.2.1 (by decide)]; exact q4.2.2.2
      · have hD := q4.2.2.1
        have d6 := (kind_in hg hD (by decide)).1
        have ne : ∀ {l d : Nat} {xs : List Nat}, AL h l d xs → Dd r' ≠ d := fun {l d xs} H y => by
          rcases AL_dk H with w | w
          · omega
          · rw [y, w.2] at hD
            exact absurd hD (by decide)
        rw [fQ _ nd (ne l11) (ne l10)]
        obtain ⟨y1, y2⟩ := q5 p hp
        refine ⟨fun d hd => KP_k hg K (y1 d hd) (by decide), ?_⟩
        unfold DR at *
        rw [tRule_o (by decide), tRule_o (by decide), tRule_o (by decide)]
        cases hq : hQ h (Dd r') p with
        | none =>
          rw [hq] at y2
          exact y2
        | some d =>
          rw [hq] at y2
          have nq := (kind_in hg (y1 d hq) (by decide)).2
          simp only [fI fD_kind d (by decide) (by decide) nq, fI fD_number d (by decide) (by decide) nq, fI fD_variable d (by decide) (by decide) nq]
          exact y2
  · rw [fI _ _ (by decide) (by decide) (kind_in hg hX.2.1.1 (by decide)).2, tRule_o (by decide)]
    exact s1
  · rw [fI _ _ (by decide) (by decide) (kind_in hg hX.1.1 (by decide)).2, tRule_o (by decide)]
    exact s2
