/-! ===== one more part of a rule: what is told ===== -/
def up (f : Nat → Nat) (i v : Nat) : Nat → Nat := fun j => if j = i then v else f j
theorem up_i {f : Nat → Nat} {i v : Nat} : up f i v i = v := if_pos rfl
theorem up_n {f : Nat → Nat} {i v j : Nat} (h : j ≠ i) : up f i v j = f j := if_neg h
def paU (pa : Nat → Nat → Nat) (r c q : Nat) : Nat → Nat → Nat := fun r' k => if r' = r ∧ k = c then q else pa r' k
theorem paU_i {pa : Nat → Nat → Nat} {r c q : Nat} : paU pa r c q r c = q := if_pos ⟨rfl, rfl⟩
theorem paU_n {pa : Nat → Nat → Nat} {r c q r' k : Nat} (h : ¬ (r' = r ∧ k = c)) : paU pa r c q r' k = pa r' k := if_neg h
theorem tPart_e {S : MM} {r c : Nat} {w t a b : Int32} : tPart S r c w t a b = u2 (u2 (u2 (u2 (u2 S 12 (3 * r + c) w) 13 (3 * r + c) t) 14 (3 * r + c) a) 15 (3 * r + c) b) 11 r (nI (c + 1)) := rfl
theorem tPart_o {S : MM} {r c : Nat} {w t a b : Int32} {k : Nat} (h : k < 11 ∨ 15 < k) : tPart S r c w t a b k = S k := funext fun j => by
  rw [tPart_e, u2_row (by omega), u2_row (by omega), u2_row (by omega), u2_row (by omega), u2_row (by omega)]
theorem tPart_11 {S : MM} {r c : Nat} {w t a b : Int32} : tPart S r c w t a b 11 r = nI (c + 1) ∧ ∀ j, j ≠ r → tPart S r c w t a b 11 j = S 11 j := by
  refine ⟨by rw [tPart_e, u2_self], fun j hj => ?_⟩
  rw [tPart_e, u2_ne (fun z => hj z.2), u2_row (by decide), u2_row (by decide), u2_row (by decide), u2_row (by decide)]
theorem tPart_n {S : MM} {r c : Nat} {w t a b : Int32} {k j : Nat} (hk : 12 ≤ k) (hj : j ≠ 3 * r + c) : tPart S r c w t a b k j = S k j := by
  rw [tPart_e, u2_row (by omega), u2_ne (fun z => hj z.2), u2_ne (fun z => hj z.2), u2_ne (fun z => hj z.2), u2_ne (fun z => hj z.2)]
theorem tPart_i {S : MM} {r c : Nat} {w t a b : Int32} : tPart S r c w t a b 12 (3 * r + c) = w ∧ tPart S r c w t a b 13 (3 * r + c) = t ∧ tPart S r c w t a b 14 (3 * r + c) = a ∧ tPart S r c w t a b 15 (3 * r + c) = b := by
  rw [tPart_e]
  refine ⟨?_, ?_, ?_, ?_⟩
  · rw [u2_row (by decide), u2_row (by decide), u2_row (by decide), u2_row (by decide), u2_self]
  · rw [u2_row (by decide), u2_row (by decide), u2_row (by decide), u2_self]
  · rw [u2_row (by decide), u2_row (by decide), u2_self]
  · rw [u2_row (by decide), u2_self]
theorem gS_p {S : MM} {r c : Nat} {w t a b : Int32} : gS (tPart S r c w t a b) = gS S := funext fun q => by
  unfold gS
  rw [tPart_o (by decide), tPart_o (by decide), tPart_o (by decide)]
/-- the weights of the other rules -/
theorem wS_p {S : MM} {R r c : Nat} {w t a b : Int32} (h : RSo S R) (h3 : c < 3) {q : Nat} (hq : q < R) (hne : q ≠ r) : wS (tPart S r c w t a b) q = wS S q := by
  obtain ⟨e, e1, e2, e3, _⟩ := h.2.2 q hq
  unfold wS
  rw [tPart_11.2 q hne, e1, tn_nI (by omega)]
  exact wtS_p e (fun j hj => ⟨tPart_n (by decide) (by omega), tPart_n (by decide) (by omega), tPart_n (by decide) (by omega)⟩)
theorem wS_pr {S : MM} {r c : Nat} {w t a b : Int32} (hc : S 11 r = nI c) (h3 : c < 3) : wS (tPart S r c w t a b) r = wS S r + ptW (tPart S r c w t a b) (3 * r + c) := by
  unfold wS
  rw [tPart_11.1, hc, tn_nI (by omega), tn_nI (by omega)]
  show wtS (tPart S r c w t a b) r c + _ = _
  rw [wtS_p c (fun j hj => ⟨tPart_n (by decide) (by omega), tPart_n (by decide) (by omega), tPart_n (by decide) (by omega)⟩)]
theorem ELS_f {A : Nat → Nat} {m : Nat} {h h' : Hp} {El : List Nat} (hg : Good h) (K : KP h h') (e1 : hR h' fL_values = hR h fL_values) (e2 : hR h' fL_sources = hR h fL_sources) (e3 : hR h' fE_kept = hR h fE_kept) (e4 : hR h' fE_fresh = hR h fE_fresh) (H : ELS A m h El) : ELS A m h' El := by
  have fr2 : frs h' = frs h := funext fun k => by unfold frs; rw [e4]
  have kp2 : kpt h' = kpt h := funext fun k => by unfold kpt; rw [e3]
  have v2 : vls h' = vls h := funext fun k => by unfold vls; rw [e1]
  have sc2 : scs h' = scs h := funext fun k => by unfold scs; rw [e2]
  have lk2 : lks h' = lks h := funext fun k => by unfold lks; rw [fr2, kp2]
  have ar2 : ars A h' = ars A h := funext fun k => by unfold ars; rw [lk2, v2, sc2]
  obtain ⟨h1, h2, h3, h4, h5⟩ := H
  unfold ELS
  rw [lk2, ar2]
  refine ⟨h1, fun e he => ?_, h3, h4, h5⟩
  obtain ⟨y1, y2, y3, y4, y5⟩ := h2 e he
  refine ⟨KP_k hg K y1 (by decide), ?_, ?_, ?_, ?_⟩
  · rw [e4, fr2]; exact y2
  · rw [fr2]; exact KP_LW hg K e1 e2 y3
  · rw [e3, kp2]; exact y4
  · rw [kp2]; exact KP_LW hg K e1 e2 y5
theorem TLD_pa {A D : Nat → Nat} {m : Nat} {h h2 : Hp} {S : MM} {n R r c q d1 d2 N1 : Nat} {w t a b : Int32} {Ee : Nat → Nat} {is ss ss' : List Nat} {ra : Nat → Nat} {pa : Nat → Nat → Nat} {Dd Pl dP : Nat → Nat} (T : TLD A D m h S n R Ee is ss ra pa Dd Pl dP) (hRS : RSo S R) (hr : r < R) (hc : S 11 r = nI c) (h3 : c < 3)
    (g2 : Good h2) (K : KP h h2) (fI : ∀ f, f ≠ fA_modCount → f ≠ fA_size → f ≠ fU_weightInAll → hI h2 f = hI h f) (fW : ∀ x, x ≠ ra r → hI h2 fU_weightInAll x = hI h fU_weightInAll x) (fWr : hI h2 fU_weightInAll (ra r) = wS (tPart S r c w t a b) r) (fS : ∀ x, x ≠ Pl r → x ≠ A 10 → hI h2 fA_size x = hI h fA_size x)
    (fR : ∀ f, f ≠ fA_elementData → hR h2 f = hR h f) (fE : ∀ x, x ≠ Pl r → x ≠ A 10 → hR h2 fA_elementData x = hR h fA_elementData x) (fQ : ∀ x, x < hN h → x ≠ dP r → x ≠ D 10 → hQ h2 x = hQ h x)
    (hq : hK h q = 5 ∧ hI h fP_way q = w ∧ hI h fP_tag q = t ∧ hI h fP_has q = a ∧ hI h fP_lacks q = b)
    (A1 : AL h2 (Pl r) d1 ((List.range c).map (pa r) ++ [q])) (A2 : AL h2 (A 10) d2 ss') (hd1 : d1 = dP r ∨ hN h ≤ d1) (hN1 : hN h ≤ N1 ∧ d1 < N1) (hd2 : d2 = D 10 ∨ N1 ≤ d2) (hs : SSo (tPart S r c w t a b) R ra ss') :
    TLD A (up D 10 d2) m h2 (tPart S r c w t a b) n R Ee is ss' ra (paU pa r c q) Dd Pl (up dP r d1) := by
  have hlad := lad_n T
  obtain ⟨hg, hX, ⟨l7, l8, ⟨⟨xs, l9⟩, cp⟩, l10, l11, lp⟩, hE, hT, ⟨ri, di, hRr⟩, hx, s1, s2⟩ := T
  have lpi := pw_i.mp lp
  obtain ⟨⟨p1, p2, p3, p4, p5, p6, p7, p8, p9, p10⟩, pr, _⟩ := ls_pw lp
  have alf : ∀ {l d : Nat} {xs : List Nat}, AL h l d xs → l ≠ Pl r → l ≠ A 10 → (d = dP r → d = 4) → (d = D 10 → d = 4) → AL h2 l d xs := fun {l d xs} H n1 n2 n3 n4 => AL_f hg K (fS l n1 n2) (fE l n1 n2) (fun n5 k => fQ d (kind_in hg k (by decide)).2 (fun z => n5 (n3 z)) (fun z => n5 (n4 z))) H
  have sy : ∀ {x y : Nat × Nat}, pw x y → x.1 ≠ y.1 ∧ (x.2 = y.2 → x.2 = 4) := fun H => H
  obtain ⟨r7, r8, r9, r10, r11⟩ := pr r hr
  have ti := tPart_i (S := S) (r := r) (c := c) (w := w) (t := t) (a := a) (b := b)
  have ge : EU S (tPart S r c w t a b) := fun k k1 k2 => tPart_o (by omega)
  have lp1 : (lsA A D R Pl (up dP r d1)).Pairwise pw := pw_up (k := r + 5) (N := hN h) lp (fun i hi => (hlad i hi).1) (fun i hi hne => by
    unfold lad
    by_cases z : i < 5
    · rw [if_pos z, if_pos z]
    · rw [if_neg z, if_neg z, up_n (by omega)]) (by
    unfold lad
    rw [if_neg (by omega), if_neg (by omega), show r + 5 - 5 = r by omega, up_i]
    exact hd1)
  have lp2 : (lsA A (up D 10 d2) R Pl (up dP r d1)).Pairwise pw := pw_up (k := 3) (N := N1) lp1 (fun i hi => by
    have := (hlad i hi).1
    unfold lad at this ⊢
    by_cases z : i < 5
    · rw [if_pos z] at this ⊢
      omega
    · rw [if_neg z] at this ⊢
      by_cases y : i - 5 = r
      · rw [y, up_i]
        exact hN1.2
      · rw [up_n y]
        omega) (fun i hi hne => by
    unfold lad
    by_cases z : i < 5
    · rw [if_pos z, if_pos z, up_n (by omega)]
    · rw [if_neg z, if_neg z]) (by
    unfold lad
    rw [if_pos (by decide), if_pos (by decide), show 7 + 3 = 10 from rfl, up_i]
    exact hd2)
  refine ⟨g2, FXD_f hg K (fun f hf => fR f ?_) hX, ⟨?_, ?_, ⟨⟨xs, ?_⟩, ?_⟩, ?_, ?_, lp2⟩, ?_, TEL_e ge (TEL_f (fun f hf => fI f ?_ ?_ ?_) (fun f hf => fR f ?_) hT), ⟨ri, di, fun r' hr' => ?_⟩, hs, ?_, ?_⟩
  · rcases hf with z | z | z | z | z | z | z | z | z | z | z | z <;> subst z <;> decide
  · rw [up_n (by decide)]
    exact alf l7 r7.1 p3.1 r7.2 p3.2
  · rw [up_n (by decide)]
    exact alf l8 r8.1 p6.1 r8.2 p6.2
  · rw [up_n (by decide)]
    exact alf l9 r9.1 p8.1 r9.2 p8.2
  · rw [up_n (by decide)]
    unfold CP at *
    rcases AL_dk l9 with y | y
    · exact Or.inl y
    · rw [KP_l hg K y.2 (by decide)]
      exact cp
  · rw [up_i]
    exact A2
  · rw [up_n (by decide)]
    exact alf l11 r11.1 (fun z => p10.1 z.symm) r11.2 (fun z => by rw [z]; exact p10.2 z.symm)
  · exact ELS_f hg K (fR _ (by decide)) (fR _ (by decide)) (fR _ (by decide)) (fR _ (by decide)) hE
  · rcases hf with z | z | z | z | z <;> subst z <;> decide
  · rcases hf with z | z | z | z | z <;> subst z <;> decide
  · rcases hf with z | z | z | z | z <;> subst z <;> decide
  · rcases hf with z | z | z | z | z <;> subst z <;> decide
  · have H := hRr r' hr'
    obtain ⟨⟨u1, u2', u3, u4, u5⟩, ⟨q1, q2⟩, q3, q4, q5⟩ := H
    have hcnt : cn (dclS (tPart S r c w t a b) r') 14 = cn (dclS S r') 14 := cn_c 14 (fun p _ => by
      unfold dclS
      rw [tPart_o (by decide)])
    have part5 : ∀ p, p < 14 → (∀ d, hQ h2 (Dd r') p = some d → hK h2 d = 2) ∧ DR (tPart S r c w t a b) h2 (14 * r' + p) (hQ h2 (Dd r') p) := fun p hp => by
      have hD := q4.2.2.1
      have nd : Dd r' ≠ dP r ∧ Dd r' ≠ D 10 := by
        have d6 := (kind_in hg hD (by decide)).1
        constructor
        · intro z
          rcases AL_dk (hRr r hr).2.1.2 with y | y
          · omega
          · rw [z, y.2] at hD
            exact absurd hD (by decide)
        · intro z
          rcases AL_dk l10 with y | y
          · omega
          · rw [z, y.2] at hD
            exact absurd hD (by decide)
      rw [fQ _ (kind_in hg hD (by decide)).2 nd.1 nd.2]
      obtain ⟨y1, y2⟩ := q5 p hp
      refine ⟨fun d hd => KP_k hg K (y1 d hd) (by decide), ?_⟩
      have y3 := DR_f (h' := h2) (fI fD_kind (by decide) (by decide) (by decide)) (fI fD_number (by decide) (by decide) (by decide)) (fI fD_variable (by decide) (by decide) (by decide)) y2
      unfold DR at *
      rw [tPart_o (by decide), tPart_o (by decide), tPart_o (by decide)]
      exact y3
    have w12 : hI h2 fP_tag = hI h fP_tag ∧ hI h2 fP_has = hI h fP_has ∧ hI h2 fP_lacks = hI h fP_lacks ∧ hI h2 fP_way = hI h fP_way := ⟨fI _ (by decide) (by decide) (by decide), fI _ (by decide) (by decide) (by decide), fI _ (by decide) (by decide) (by decide), fI _ (by decide) (by decide) (by decide)⟩
    by_cases z : r' = r
    · subst z
      have e11 := (tPart_11 (S := S) (r := r') (c := c) (w := w) (t := t) (a := a) (b := b)).1
      refine ⟨⟨?_, ?_, ?_, fWr, ?_⟩, ⟨?_, ?_⟩, fun k hk => ?_, UD_f hg K (fR _ (by decide)) q4, part5⟩
      · rw [fI _ (by decide) (by decide) (by decide), tPart_o (by decide)]; exact u1
      · rw [fI _ (by decide) (by decide) (by decide), gS_p]; exact u2'
      · rw [fI _ (by decide) (by decide) (by decide)]; exact u3
      · rw [fI _ (by decide) (by decide) (by decide), hcnt]; exact u5
      · rw [fR _ (by decide)]; exact q1
      · rw [e11, tn_nI (by omega), List.range_succ, List.map_append, up_i]
        have e0 : (List.range c).map (paU pa r' c q r') = (List.range c).map (pa r') := List.map_congr_left (fun k hk => paU_n (fun y => by
          have := List.mem_range.mp hk
          omega))
        rw [e0, List.map_cons, List.map_nil, paU_i]
        exact A1
      · rw [e11, tn_nI (by omega)] at hk
        rw [w12.1, w12.2.1, w12.2.2.1, w12.2.2.2]
        by_cases y : k = c
        · subst y
          rw [paU_i, ti.1, ti.2.1, ti.2.2.1, ti.2.2.2]
          exact ⟨KP_k hg K hq.1 (by decide), hq.2.2.1, hq.2.2.2.1, hq.2.2.2.2, fun _ => hq.2.1⟩
        · rw [paU_n (show ¬ (r' = r' ∧ k = c) from fun x => y x.2), tPart_n (by decide) (by omega), tPart_n (by decide) (by omega), tPart_n (by decide) (by omega), tPart_n (by decide) (by omega)]
          obtain ⟨x1, x2, x3, x4, x5⟩ := q3 k (by rw [hc, tn_nI (by omega)]; omega)
          exact ⟨KP_k hg K x1 (by decide), x2, x3, x4, x5⟩
    · have e11 := (tPart_11 (S := S) (r := r) (c := c) (w := w) (t := t) (a := a) (b := b)).2 r' z
      obtain ⟨e, f1, f2, f3, _⟩ := hRS.2.2 r' hr'
      have ep : paU pa r c q r' = pa r' := funext fun k => paU_n (fun y => z y.1)
      obtain ⟨l1, l2⟩ := lpi (r' + 5) (r + 5) (by omega) (by omega) (by omega)
      unfold lad at l1 l2
      rw [if_neg (by omega), if_neg (by omega), show r' + 5 - 5 = r' by omega, show r + 5 - 5 = r by omega] at l1 l2
      obtain ⟨s7, s8, s9, s10, s11⟩ := pr r' hr'
      refine ⟨⟨?_, ?_, ?_, ?_, ?_⟩, ⟨?_, ?_⟩, fun k hk => ?_, UD_f hg K (fR _ (by decide)) q4, part5⟩
      · rw [fI _ (by decide) (by decide) (by decide), tPart_o (by decide)]; exact u1
      · rw [fI _ (by decide) (by decide) (by decide), gS_p]; exact u2'
      · rw [fI _ (by decide) (by decide) (by decide)]; exact u3
      · rw [fW _ (fun y => z (ri r' hr' r hr y)), wS_p hRS h3 hr' z]; exact u4
      · rw [fI _ (by decide) (by decide) (by decide), hcnt]; exact u5
      · rw [fR _ (by decide)]; exact q1
      · show AL h2 (Pl r') (up dP r d1 r') ((List.range (tn (tPart S r c w t a b 11 r'))).map (paU pa r c q r'))
        rw [e11, ep, up_n z]
        exact alf q2 l1 (fun y => s10.1 y.symm) l2 (fun y => by rw [y]; exact s10.2 y.symm)
      · rw [e11, f1, tn_nI (by omega)] at hk
        rw [w12.1, w12.2.1, w12.2.2.1, w12.2.2.2, paU_n (show ¬ (r' = r ∧ k = c) from fun x => z x.1), tPart_n (by decide) (by omega), tPart_n (by decide) (by omega), tPart_n (by decide) (by omega), tPart_n (by decide) (by omega)]
        obtain ⟨x1, x2, x3, x4, x5⟩ := q3 k (by rw [f1, tn_nI (by omega)]; omega)
        exact ⟨KP_k hg K x1 (by decide), x2, x3, x4, x5⟩
  · rw [fI _ (by decide) (by decide) (by decide), tPart_o (by decide)]
    exact s1
  · rw [fI _ (by decide) (by decide) (by decide), tPart_o (by decide)]
    exact s2
