/-! ===== findAnew over the class at rest ===== -/
/-- two tables of the same told rows are the same, as far as the model keeps them -/
theorem LE_u {S S0 Y Y0 : MM} {n R : Nat} (T : TOLD S n R) (hY : LE S Y n R) (hV : VR Y n) (hY0 : LE S Y0 n R) (hV0 : VR Y0 n) {e : Nat} (he : e < n) (g : GV S0 Y0 e ∧ GE S0 Y0 e) : GV S0 Y e ∧ GE S0 Y e := by
  obtain ⟨S1, e1, g1, _⟩ := finds_s T hY hV
  obtain ⟨S2, e2, g2, _⟩ := finds_s T hY0 hV0
  have es : S1 = S2 := Option.some.inj (e1.symm.trans e2)
  subst es
  obtain ⟨a1, b1, c1⟩ := g1 e he
  obtain ⟨a2, b2, c2⟩ := g2 e he
  obtain ⟨a0, b0, c0⟩ := g
  refine ⟨fun p hp => ⟨?_, ?_⟩, fun i hi => ?_, ?_⟩
  · rw [(a0 p hp).1, ← (a2 p hp).1, (a1 p hp).1]
  · rw [(a0 p hp).2, ← (a2 p hp).2, (a1 p hp).2]
  · rw [b0 i hi, ← b2 i hi, b1 i hi]
  · rw [c0, ← c2, c1]
theorem fa_s (l : Launch) (G : Gl) {A D : Nat → Nat} {m : Nat} {h : Hp} {S T : MM} {n R : Nat} {mt : Nat → Option Nat} {Ee : Nat → Nat} {is ss : List Nat} {ra : Nat → Nat} {pa : Nat → Nat → Nat} {Dd Pl dP : Nat → Nat} (TL : TLD A D m h T n R Ee is ss ra pa Dd Pl dP) (hT : TNR T n R) (hKO : KO h S n mt Ee) :
    ∃ (h2 : Hp) (d' j : Nat) (Y : MM), LE T Y n R ∧ VR Y n ∧ MRw l G yX11_findAnew (.code yX11_findAnew cX11_findAnew 5 none) 10 j (60 * j) [.ref (A 0)] h (.inl (none, h2)) ∧ TLD A (up9 D d') m h2 T n R Ee is ss ra pa Dd Pl dP ∧
      KO h2 S n mt Ee ∧ (∀ e, e < n → hR h2 fE_fresh (Ee e) = some (frs h2 (Ee e)) ∧ LW h2 (frs h2 (Ee e)) ∧ LKZ h2 (frs h2 (Ee e)) (vls h2 (frs h2 (Ee e))) (scs h2 (frs h2 (Ee e))) Y e) ∧ MFR m h h2 ∧ FND A D h h2 d' ∧ j + Ph h2 d' ≤ Ph h (D 9) ∧ hI h2 fH_lastReached (A 0) = hI h fH_lastReached (A 0) ∧ ∀ e, e < n → Y e 29 = 0 ∨ Y e 29 = 1 := by
  have hS := hT.1.1
  have h24 := hS.2.2.1
  have hg := TL.1
  have hFW := ex_FW TL hT.1
  have hHW := ex_HW TL
  have hER := ex_ER TL
  have hRR := ex_RR TL hT.2.2.2.2
  have hCC := ex_CC (S := T) (n := n) (h := h) (Ee := Ee)
  obtain ⟨Y, e1, hY, hr, hz⟩ := an_s hT.1 hER hRR hCC (zO h Ee)
  have hV := LE_VR hS hY hr hT.2.2.2.1
  have hE := TL.2.2.2.1
  have hX := TL.2.1
  have ww := TL.2.2.2.2.2.2.2.2
  have hinj := TL.2.2.2.2.1.1
  obtain ⟨h', d', j, M, FW', HW', X, ph⟩ := c_findAnew l G hFW hHW (fun e he => ⟨uO_e hinj he, fun q hq => up_lt hS he hq⟩) (fun k hk => ⟨chn_ch k, fun x hx => (chl_m.mp hx).1⟩) (show n < 2 ^ 31 by omega) (by rw [ww]; exact e1)
  rw [cm_fix zO_R] at M
  have hZ := FW'.2.1
  have g' := FW'.1
  obtain ⟨x0, x1, x2, x3, x4, x5, x6, x7, x8⟩ := X
  obtain ⟨w, ew⟩ : ∃ w, w = wO T n h Ee := ⟨_, rfl⟩
  have wn0 : wn w = n := by rw [ew]; rfl
  have wf0 : ∀ e, wf w e = frs h (Ee e) := fun e => by rw [ew]; rfl
  have wv0 : ∀ e, wv w e = vls h (frs h (Ee e)) := fun e => by rw [ew]; rfl
  have ws0 : ∀ e, ws w e = scs h (frs h (Ee e)) := fun e => by rw [ew]; rfl
  rw [← ew] at M hZ x2 x3 x6 FW'
  obtain ⟨hb, ehb⟩ : ∃ z, z = cm w h' Y := ⟨_, rfl⟩
  rw [← ehb] at M
  have gb : Good hb := by rw [ehb]; exact good_cm g' hZ
  have bN : hN hb = hN h' := by rw [ehb]; rfl
  have bK : hK hb = hK h' := by rw [ehb]; rfl
  have bL : hL hb = hL h' := by rw [ehb]; rfl
  have bR : hR hb = hR h' := by rw [ehb]; rfl
  have bQ : hQ hb = hQ h' := by rw [ehb]; rfl
  have bW : hW hb = hW h' := by rw [ehb]; rfl
  have KP2 : KP h hb := ⟨by rw [bN]; exact x0.1, fun a ha => by rw [bK, bL]; exact x0.2 a ha⟩
  have In : ∀ f x, (f < 258 ∨ 266 < f) → hI hb f x = hI h' f x := fun f x a => by
    rw [ehb]
    exact cm_In a
  have R2 : ∀ f, f ≠ fA_elementData → hR hb f = hR h f := fun f a => by rw [bR]; exact x4 f a
  have F : FND A D h hb d' := by
    refine ⟨gb, KP2, fun f x a b c d => ?_, fun x hx => ?_, fun f a b c => R2 f a, fun x hx => ?_, fun x a b c => ?_, ⟨?_, ?_⟩, x1⟩
    · rw [In f x c]
      exact x2 f x a b (c.elim Or.inl (fun z => Or.inr (Or.inl z)))
    · rw [In _ x (by decide)]
      exact x3 _ x hx (Or.inl (by decide))
    · rw [bR]
      exact x5 _ x hx
    · rw [bQ]
      exact x8 x a b c
    · obtain ⟨xs, a9⟩ := FW'.2.2.2.2.1.2.1
      refine ⟨xs, ?_⟩
      unfold AL at a9 ⊢
      rw [bK, bL, bQ, bR, In _ _ (by decide)]
      exact a9
    · have := FW'.2.2.2.2.1.2.2.1
      unfold CP at this ⊢
      rw [bL]
      exact this
  have fr2 : frs hb = frs h := funext fun k => by unfold frs; rw [R2 _ (by decide)]
  have kp2 : kpt hb = kpt h := funext fun k => by unfold kpt; rw [R2 _ (by decide)]
  have v2 : vls hb = vls h := funext fun k => by unfold vls; rw [R2 _ (by decide)]
  have sc2 : scs hb = scs h := funext fun k => by unfold scs; rw [R2 _ (by decide)]
  have lk2 : lks hb = lks h := funext fun k => by unfold lks; rw [fr2, kp2]
  have ar2 : ars A hb = ars A h := funext fun k => by unfold ars; rw [lk2, v2, sc2]
  have EW2 : ∀ e, EW h e → EW hb e := fun e H => by
    obtain ⟨y1, y2, y3, y4, y5⟩ := H
    refine ⟨KP_k hg KP2 y1 (by decide), ?_, ?_, ?_, ?_⟩
    · rw [R2 _ (by decide), fr2]; exact y2
    · rw [fr2]; exact KP_LW hg KP2 (R2 _ (by decide)) (R2 _ (by decide)) y3
    · rw [R2 _ (by decide), kp2]; exact y4
    · rw [kp2]; exact KP_LW hg KP2 (R2 _ (by decide)) (R2 _ (by decide)) y5
  have ELS2 : ELS A m hb ((List.range n).map Ee ++ is) := by
    obtain ⟨h1, h2, h3, h4, h5⟩ := hE
    unfold ELS
    rw [lk2, ar2]
    exact ⟨h1, fun e he => EW2 e (h2 e he), h3, h4, h5⟩
  have TL2 := TLD_fr TL F ELS2
  obtain ⟨l1, l2, l3⟩ := lk_d hE
  obtain ⟨r0, r1, r2, r3, r4⟩ := ar_d hE
  have fz : ∀ e, e < n → LKZ hb (frs h (Ee e)) (vls h (frs h (Ee e))) (scs h (frs h (Ee e))) Y e := fun e he => by
    have he' : e < wn w := by rw [wn0]; exact he
    rw [← wv0 e, ← ws0 e, ← wf0 e, ehb]
    exact ⟨fun p hp => ⟨cm_v hZ he' hp, cm_s hZ he' hp⟩, cm_I hZ he' (by decide) (by decide), cm_I hZ he' (by decide) (by decide), cm_I hZ he' (by decide) (by decide), cm_I hZ he' (by decide) (by decide), cm_I hZ he' (by decide) (by decide), cm_I hZ he' (by decide) (by decide)⟩
  have hAo : ∀ a, a ≠ A 5 → a ≠ A 6 → (∀ e, e < n → vls h (frs h (Ee e)) ≠ a ∧ scs h (frs h (Ee e)) ≠ a) → hA hb a = hA h a := fun a a5 a6 ha => by
    have ha' : ∀ e, e < wn w → wv w e ≠ a ∧ ws w e ≠ a := fun e he => by
      rw [wn0] at he
      rw [wv0, ws0]
      exact ha e he
    rw [ehb, cm_Af ha']
    exact x6 a a5 a6 ha'
  have hIo : ∀ f x, f ≠ fA_modCount → f ≠ fA_size → (∀ e, e < n → frs h (Ee e) ≠ x) → hI hb f x = hI h f x := fun f x f1 f2 hx => by
    have hx' : ∀ e, e < wn w → wf w e ≠ x := fun e he => by
      rw [wn0] at he
      rw [wf0]
      exact hx e he
    rw [ehb, cm_Ino hx']
    exact x2 f x f1 f2 (Or.inr (Or.inr hx'))
  refine ⟨hb, d', j, Y, hY, hV, M, TL2, fun e he => ?_, fun e he => ?_, ⟨KP2, fun f x hf => ?_, fun f hf => ?_, fun x h1 h2' => ?_, by rw [bW]; exact x7⟩, F, ?_, ?_, fun e he => box01 hS hY he⟩
  · have hk := hKO e he
    have nk : ∀ e', e' < n → frs h (Ee e') ≠ kpt h (Ee e) := fun e' he' => l3 _ _ (Ee_m he') (Ee_m he)
    rw [kp2]
    cases hm : mt e with
    | none =>
      rw [hm] at hk
      show hI hb fL_isKnown (kpt h (Ee e)) = 0
      rw [hIo fL_isKnown _ (by decide) (by decide) nk]
      exact hk
    | some f =>
      rw [hm] at hk
      have hk : LKo h (kpt h (Ee e)) S f := hk
      show LKo hb (kpt h (Ee e)) S f
      have m1 : kpt h (Ee e) ∈ lks h ((List.range n).map Ee ++ is) := kp_lk (Ee_m he)
      have q5 := r4 _ m1
      unfold LKo at *
      rw [v2, sc2, hIo fL_isKnown _ (by decide) (by decide) nk, hIo fL_hasBox _ (by decide) (by decide) nk, hIo fL_left _ (by decide) (by decide) nk, hIo fL_top _ (by decide) (by decide) nk, hIo fL_width _ (by decide) (by decide) nk, hIo fL_height _ (by decide) (by decide) nk, hIo fL_lineCount _ (by decide) (by decide) nk]
      rw [hAo _ q5.1 q5.2.2.1 (fun e' he' => ⟨fun z => nk e' he' (r1 _ _ (fr_lk (Ee_m he')) m1 z), fun z => r3 _ _ m1 (fr_lk (Ee_m he')) z.symm⟩)]
      rw [hAo _ q5.2.1 q5.2.2.2 (fun e' he' => ⟨fun z => r3 _ _ (fr_lk (Ee_m he')) m1 z, fun z => nk e' he' (r2 _ _ (fr_lk (Ee_m he')) m1 z)⟩)]
      exact hk
  · obtain ⟨_, y2, y3, _, _⟩ := EW2 _ (hE.2.1 _ (Ee_m (is := is) he))
    refine ⟨y2, y3, ?_⟩
    rw [v2, sc2, fr2]
    exact fz e he
  · rw [In f x (Or.inr (by omega))]
    exact x2 f x (fun z => by rw [z] at hf; exact absurd hf (by decide)) (fun z => by rw [z] at hf; exact absurd hf (by decide)) (Or.inr (Or.inl (by omega)))
  · exact R2 f (fun z => by rw [z] at hf; exact absurd hf (by decide))
  · have o := hE.2.2.2.2
    refine hAo x (fun z => ?_) (fun z => ?_) (fun e he => ⟨fun z => ?_, fun z => ?_⟩)
    · have := o (A 5) List.mem_cons_self
      omega
    · have := o (A 6) (List.mem_cons_of_mem _ List.mem_cons_self)
      omega
    · have := o (vls h (frs h (Ee e))) (List.mem_cons_of_mem _ (List.mem_cons_of_mem _ (List.mem_append_left _ (List.mem_map.mpr ⟨_, fr_lk (Ee_m he), rfl⟩))))
      omega
    · have := o (scs h (frs h (Ee e))) (List.mem_cons_of_mem _ (List.mem_cons_of_mem _ (List.mem_append_right _ (List.mem_map.mpr ⟨_, fr_lk (Ee_m he), rfl⟩))))
      omega
  · have : Ph hb d' = Ph h' d' := by
      unfold Ph
      rw [bL]
    rw [this]
    exact ph
  · rw [In _ _ (by decide)]
    exact x2 _ _ (by decide) (by decide) (Or.inr (Or.inl (by decide)))
