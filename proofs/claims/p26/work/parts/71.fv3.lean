/-! ===== Cascade.findValues: its contract ===== -/
theorem fdS_fr (h : Hp) (K P : Nat) (Ds : Nat → Nat) (xs : List Nat) : hN (fdS h K P Ds xs) = hN h ∧ hK (fdS h K P Ds xs) = hK h ∧ hL (fdS h K P Ds xs) = hL h ∧ hI (fdS h K P Ds xs) = hI h ∧ hR (fdS h K P Ds xs) = hR h ∧ hW (fdS h K P Ds xs) = hW h ∧ (∀ b, b ≠ P → hA (fdS h K P Ds xs) b = hA h b) ∧ (∀ b, b ≠ K → hQ (fdS h K P Ds xs) b = hQ h b) :=
  ⟨rfl, rfl, rfl, rfl, rfl, rfl, fun _ q => stD_An q, fun _ q => stD_Qn q⟩
theorem XF_of {w : WZ} {h h' : Hp} {l d K P N : Nat} (e1 : hN h' = hN h) (e2 : hK h' = hK h) (e3 : hL h' = hL h) (e4 : hI h' = hI h) (e5 : hR h' = hR h) (e6 : hW h' = hW h) (e7 : ∀ b, b ≠ P → b ≠ N → hA h' b = hA h b) (e8 : ∀ b, b ≠ K → hQ h' b = hQ h b) : XF w h h' l d d K P N :=
  ⟨⟨Nat.le_of_eq e1.symm, fun a _ => ⟨congrFun e2 a, congrFun e3 a⟩⟩, Or.inl rfl, fun f b _ _ _ => by rw [e4], fun f b _ _ => by rw [e4], fun f _ => by rw [e5], fun f b _ => by rw [e5], fun b x y _ => e7 b x y, e6, fun b _ _ z => e8 b z⟩
theorem good_A {h h' : Hp} (hg : Good h) (e1 : hN h' = hN h) (e2 : hK h' = hK h) (e3 : hL h' = hL h) (e4 : hI h' = hI h) (e5 : hR h' = hR h) (e6 : hW h' = hW h) (eQ : ∀ a j b, hQ h' a j = some b → b < hN h) (z1 : ∀ a, hN h ≤ a → ∀ j, hA h' a j = 0 ∧ hQ h' a j = none) : Good h' := by
  obtain ⟨g1, g2, g3, g4, g5, g6, g7⟩ := hg
  refine ⟨by rw [e1]; exact g1, by rw [e2]; exact g2, fun a ha => ?_, fun f a b q => ?_, fun a j b q => ?_, fun a x y => ?_, fun a => ?_⟩
  · rw [e1] at ha
    rw [e2, e4, e5, e6]
    exact ⟨(g3 a ha).1, (g3 a ha).2.1, fun j => ⟨(z1 a ha j).1, (z1 a ha j).2, ((g3 a ha).2.2 j).2.2⟩⟩
  · rw [e5] at q
    rw [e1]
    exact g4 f a b q
  · rw [e1]
    exact eQ a j b q
  · rw [e1] at y
    rw [e2]
    exact g6 a x y
  · rw [e3]
    exact g7 a
theorem good_fdS {h : Hp} {K P : Nat} {Ds : Nat → Nat} {xs : List Nat} (hg : Good h) (hK2 : K < hN h) (hP : P < hN h) (hx : ∀ x, x ∈ xs → x < hN h) : Good (fdS h K P Ds xs) := by
  obtain ⟨f1, f2, f3, f4, f5, f6, f7, f8⟩ := fdS_fr h K P Ds xs
  refine good_A hg f1 f2 f3 f4 f5 f6 (fun a j b q => ?_) (fun a ha j => ?_)
  · by_cases z : a = K
    · subst z
      have e : hQ (fdS h a P Ds xs) a = upto 14 (fun p => (ldF h Ds xs p).1) (hQ h a) := stD_Q _ _ _ _ _
      rw [e] at q
      unfold upto at q
      by_cases y : j < 14
      · rw [if_pos y] at q
        exact hx b (ldF_mem q)
      · rw [if_neg y] at q
        exact hg.2.2.2.2.1 a j b q
    · rw [f8 a z] at q
      exact hg.2.2.2.2.1 a j b q
  · rw [f7 a (by omega), f8 a (by omega)]
    exact ⟨((hg.2.2.1 a ha).2.2 j).1, ((hg.2.2.1 a ha).2.2 j).2.1⟩
theorem good_wrN {h : Hp} {K N : Nat} {Ds : Nat → Nat} (hg : Good h) (hN2 : N < hN h) : Good (wrN h K N Ds 4) := by
  obtain ⟨a1, a2, a3, a4, a5, a6, a7⟩ := wrN_s h K N Ds 4
  refine good_A hg a1 a2 a3 a4 a5 a7 (fun a j b q => ?_) (fun a ha j => ?_)
  · rw [a6] at q
    exact hg.2.2.2.2.1 a j b q
  · rw [a6, wrN_o (by omega) 4]
    exact ⟨((hg.2.2.1 a ha).2.2 j).1, ((hg.2.2.1 a ha).2.2 j).2.1⟩
theorem AL_Q {h h' : Hp} {l d : Nat} {xs : List Nat} (H : AL h l d xs) (e2 : hK h' = hK h) (e3 : hL h' = hL h) (e4 : hI h' = hI h) (e5 : hR h' = hR h) (e8 : hQ h' d = hQ h d) : AL h' l d xs := by
  unfold AL at *
  rw [e2, e3, e4, e5, e8]
  exact H
theorem c_findValues (l : Launch) (G : Gl) {w : WZ} {h : Hp} {Z : MM} {c b K P N S L dS d e : Nat} {ss : List Nat} {pts : Nat → List Nat} {Ds : Nat → Nat} {U up : Nat → List Nat} {fl : Nat → Bool}
    (H : FW w h c b K P N S L dS d ss pts Ds U) (he : e < wn w) (hup : U (wE w e) = (up e).map (wE w)) (hup2 : ∀ q, q ∈ up e → q < wn w)
    (hfl : ∀ r, r ∈ ss → (fl r = true ↔ (hI h fU_least r = -1 ∨ hI h fU_least r ≤ waZ w Z (up e)) ∧ SL h U (pts r) (wE w e))) :
    ∃ (h' : Hp) (d' k : Nat) (T : Nat → Option (Int32 × Int32 × Int32 × Int32)), MRw l G yX0_findValues (.code yX0_findValues cX0_findValues 3 none) 9 k (60 * k) [.ref c, .ref (wE w e)] (cm w h Z) (.inl (none, cm w h' (fvZ w e T Z))) ∧
      FW w h' c b K P N S L dS d' ss pts Ds U ∧ XF w h h' L d d' K P N ∧ k + Ph h' d' ≤ Ph h d ∧ (∀ p, p < 14 → T p = tellT h Ds (ldF h Ds (ss.filter fl) p).1 p) := by
  have H0 := H
  have Fa : XF w h (cm w h Z) L d d K P N := XF_cm
  obtain ⟨hg, hZ, hC, ⟨b1, b2, b3, b4, b5⟩, ⟨l1, ⟨xs0, l2⟩, l3, l4, l5⟩, hR, hU, hT⟩ := H
  have hK2 := hC.2.2.1
  have l2' : AL (cm w h Z) L d xs0 := by
    obtain ⟨q1, q2, q3, q4, q5⟩ := l2
    exact ⟨q1, (cm_In (Or.inl (by decide))).trans q2, q3, q4, q5⟩
  have H9 := FW_X H0 Fa (good_cm hg hZ) l2' l3
  have hW9 : wAr (cm w h Z) (U (wE w e)) = waZ w Z (up e) := by rw [hup, wAr_cm hZ _ hup2]
  have hS9 : ∀ ps a, SL (cm w h Z) U ps a = SL h U ps a := fun ps a => by
    have hl := lik_eq (h := h) (h' := cm w h Z) (XF_I Fa (by decide) (by decide) (Or.inr (by decide))) (XF_I Fa (by decide) (by decide) (Or.inl (by decide))) (XF_I Fa (by decide) (by decide) (Or.inl (by decide))) (XF_I Fa (by decide) (by decide) (Or.inr (by decide))) (XF_I Fa (by decide) (by decide) (Or.inr (by decide)))
    cases ps with
    | nil => rfl
    | cons q qs =>
      show (lik (cm w h Z) q a ∧ RS (cm w h Z) U qs a) = (lik h q a ∧ RS h U qs a)
      rw [hl, RS_eq hl (XF_I Fa (by decide) (by decide) (Or.inr (by decide))) rfl rfl]
  have hI9 : hI (cm w h Z) fU_least = hI h fU_least := XF_I Fa (by decide) (by decide) (Or.inr (by decide))
  have hR9 := ZR_cm (Z := Z) hZ
  generalize hh : cm w h Z = h9 at Fa H9 hW9 hS9 hI9 hR9 ⊢
  clear l2'
  obtain ⟨hg9, hZ9, hC9, ⟨c1, c2, c3, c4, c5⟩, ⟨m1, ⟨xs9, m2⟩, m3, m4, m5⟩, hRr, hU9, hT9⟩ := id H9
  obtain ⟨h2, d2, k, M1, g2, F2, A2, P2, E2⟩ := c_listFor l G (fl := fl) hg9 c2 c3 c4 c5 m2 m3 m4 m5 hRr hT9 (List.mem_map.mpr ⟨e, List.mem_range.mpr he, rfl⟩) (fun r hr => by
    rw [hI9, hW9, hS9]
    exact hfl r hr)
  have X2 : XF w h9 h2 L d d2 K P N := XF_LF F2
  have H2 := FW_X H9 X2 g2 A2 P2
  obtain ⟨-, hZ2, hC2, -, -, -, hU2, -⟩ := id H2
  have z2 : ZR w h2 Z := fun q hq => ⟨fun f f1 f2 => by rw [F2.2.2.1 f (by show f ≠ 0; omega) (by show f ≠ 2; omega)]; exact (hR9 q hq).1 f f1 f2, fun j hj => by rw [F2.2.2.2.2.2.2.1]; exact (hR9 q hq).2 j hj⟩
  -- findDeciding
  have hxs : ∀ r, r ∈ ss.filter fl → r ∈ ss := fun r hr => (List.mem_filter.mp hr).1
  have kd2 := AL_d A2
  have hdK : d2 ≠ K := fun z => by
    rcases kd2 with q | q
    · have := (kind_in g2 hC2.2.2.1 (by decide)).1
      omega
    · rw [z, hC2.2.2.1] at q
      cases q
  have M2 := c_findDeciding l G (Ds := Ds) hC2.1 hC2.2.1 hC2.2.2.1 hC2.2.2.2.1 hC2.2.2.2.2.1 hC2.2.2.2.2.2.1 hC2.2.2.2.2.2.2.1 (H2.2.2.2.2.1.1) A2 hdK (fun r hr => ⟨(hU2 r (hxs r hr)).1, fun p dd hp hq => ((hU2 r (hxs r hr)).2 p dd hp hq).1, fun z => by
    have q := (hU2 r (hxs r hr)).1.2.2.1
    rw [z, hC2.2.2.1] at q
    cases q⟩)
  obtain ⟨f1, f2, f3, f4, f5, f6, f7, f8⟩ := fdS_fr h2 K P Ds (ss.filter fl)
  have hqK : hQ (fdS h2 K P Ds (ss.filter fl)) K = upto 14 (fun p => (ldF h2 Ds (ss.filter fl) p).1) (hQ h2 K) := stD_Q _ _ _ _ _
  have g3 : Good (fdS h2 K P Ds (ss.filter fl)) := good_fdS g2 (kind_in g2 hC2.2.2.1 (by decide)).2 (kind_in g2 hC2.2.2.2.2.2.1 (by decide)).2 (fun x hx => (kind_in g2 (hU2 x (hxs x hx)).1.1 (by decide)).2)
  generalize fdS h2 K P Ds (ss.filter fl) = h3 at M2 f1 f2 f3 f4 f5 f6 f7 f8 hqK g3
  have X3 : XF w h2 h3 L d2 d2 K P N := XF_of f1 f2 f3 f4 f5 f6 (fun b x _ => f7 b x) f8
  have A3 : AL h3 L d2 (ss.filter fl) := AL_Q A2 f2 f3 f4 f5 (f8 d2 hdK)
  have P3 : CP h3 d2 := by unfold CP at *; rw [f3]; exact P2
  have H3 := FW_X H2 X3 g3 A3 P3
  obtain ⟨-, hZ3, hC3, -, -, -, hU3, -⟩ := id H3
  have z3 : ZR w h3 Z := fun q hq => by
    obtain ⟨-, -, -, -, -, -, -, -, -, -, -, -, cP, cN⟩ := id hC3
    rw [f4, f7 (wv w q) (cP q hq).1, f7 (ws w q) (cP q hq).2]
    exact z2 q hq
  have hmem : ∀ p r, p < 14 → hQ h3 K p = some r → r ∈ ss ∧ (ldF h2 Ds (ss.filter fl) p).1 = some r := fun p r hp hr => by
    rw [hqK, upto_lt hp] at hr
    exact ⟨hxs r (ldF_mem hr), hr⟩
  have hD3 : DW h3 K Ds := fun p r hp hr => ⟨(hU3 r (hmem p r hp hr).1).1, fun q dd hq hd => ((hU3 r (hmem p r hp hr).1).2 q dd hq hd).1⟩
  have hV3 : VW h3 K Ds := fun p r dd hp hr hd hk => ((hU3 r (hmem p r hp hr).1).2 p dd hp hd).2 hk
  -- findVariables
  have M3 := c_findVariables l G (Z := Z) hZ3 hC3 hD3 hV3 he
  rw [cm_fix z3] at M3
  have t4 : tlZ (wrN h3 K N Ds 4) K Ds = tlZ h3 K Ds := fv_t
  have hD4 := fv_D (N := N) hD3
  have hV4 := fv_V (N := N) hV3
  have g4 : Good (wrN h3 K N Ds 4) := good_wrN g3 (kind_in g3 hC3.2.2.2.2.2.2.2.2.1 (by decide)).2
  obtain ⟨a1, a2, a3, a4, a5, a6, a7⟩ := wrN_s h3 K N Ds 4
  have a8 : ∀ b, b ≠ N → hA (wrN h3 K N Ds 4) b = hA h3 b := fun b q => wrN_o q 4
  generalize wrN h3 K N Ds 4 = h4 at M3 t4 hD4 hV4 g4 a1 a2 a3 a4 a5 a6 a7 a8
  have X4 : XF w h3 h4 L d2 d2 K P N := XF_of a1 a2 a3 a4 a5 a7 (fun b _ y => a8 b y) (fun b _ => by rw [a6])
  have A4 : AL h4 L d2 (ss.filter fl) := AL_Q A3 a2 a3 a4 a5 (by rw [a6])
  have P4 : CP h4 d2 := by unfold CP at *; rw [a3]; exact P3
  have H4 := FW_X H3 X4 g4 A4 P4
  have MF : ∀ (Y : MM) (p : Nat), p < 10 → MRw l G yX0_findOne (.code yX0_findOne cX0_findOne 7 none) 2 0 0 [.ref c, .ref (wE w e), .int (nI p)] (cm w h4 Y) (.inl (none, cm w h4 (pz Y e p (foZ w Y e p (tlZ h3 K Ds p))))) := fun Y p hp => by
    have := c_findOneZ l G (Z := Y) (p := p) H4.2.1 H4.2.2.1 hD4 hV4 he (by omega)
    rw [t4] at this
    exact this
  refine ⟨h4, d2, k, tlZ h3 K Ds, ?_, H4, XF_t Fa (XF_t X2 (XF_t X3 X4)), ?_, fun p hp => ?_⟩
  · exact fval_walk l G M1 M2 M3 MF c1 m1 hC9.1 hC2.1 hC3.1 (fun Y => (congrFun (cm_K w h4 Y) c).trans H4.2.2.1.1) c2
  · have e1 : Ph h4 d2 = Ph h2 d2 := by unfold Ph; rw [a3, f3]
    have e2 : Ph h9 d = Ph h d := by rw [← hh]; rfl
    rw [e1, ← e2]
    exact E2
  · have X9 := XF_t Fa X2
    have q1 : ∀ r, r ∈ ss.filter fl → hQ h2 (Ds r) = hQ h (Ds r) := fun r hr => XF_Q hg X9 hK2 (AL_d l2) (hU r (hxs r hr)).1.2.2.1
    have q2 : ldF h2 Ds (ss.filter fl) p = ldF h Ds (ss.filter fl) p := ldF_eq (XF_I X9 (by decide) (by decide) (Or.inr (by decide))) (XF_I X9 (by decide) (by decide) (Or.inl (by decide))) q1
    unfold tlZ tellT
    rw [hqK, upto_lt hp, q2]
    cases hr : (ldF h Ds (ss.filter fl) p).1 with
    | none => rfl
    | some r =>
      have hr1 : r ∈ ss.filter fl := ldF_mem hr
      have hne : Ds r ≠ K := fun z => by
        have q := (hU2 r (hxs r hr1)).1.2.2.1
        rw [z, hC2.2.2.1] at q
        cases q
      show (match hQ h3 (Ds r) p with | none => none | some d => some (hI h3 fD_kind d, hI h3 fD_number d, hI h3 fD_variable d, hI h3 fU_number r)) = (match hQ h (Ds r) p with | none => none | some d => some (hI h fD_kind d, hI h fD_number d, hI h fD_variable d, hI h fU_number r))
      rw [f8 (Ds r) hne, q1 r hr1, f4, XF_I X9 (f := fD_kind) (by decide) (by decide) (Or.inl (by decide)), XF_I X9 (f := fD_number) (by decide) (by decide) (Or.inl (by decide)), XF_I X9 (f := fD_variable) (by decide) (by decide) (Or.inl (by decide)), XF_I X9 (f := fU_number) (by decide) (by decide) (Or.inr (by decide))]
