/-! ===== settle over the class at rest ===== -/
theorem gd_tkA {w : WZ} {kp : Nat → Nat} {h : Hp} (hg : Good h) (hl : ∀ e, e < wn w → wE w e < hN h ∧ kp e < hN h ∧ wf w e < hN h) : ∀ k, k ≤ wn w → Good (tkA w kp h k)
  | 0, _ => hg
  | k + 1, hk => by
    have ih := gd_tkA hg hl k (by omega)
    obtain ⟨a, b, c⟩ := hl k (by omega)
    have hN1 := (tkA_fr w kp h k).1
    unfold tkA
    unfold tkF
    refine gd_sI (gd_sR (gd_sR ih (by rw [hN1]; exact a) (fun x hx => by cases hx; rw [hN1]; exact c)) (by rw [hN_sR, hN1]; exact a) (fun x hx => by cases hx; rw [hN_sR, hN1]; exact b)) (by rw [hN_sR, hN_sR, hN1]; exact c)
/-- the looks that were fresh are known -/
theorem tkA_k1 {w : WZ} {kp : Nat → Nat} {h : Hp} (hi : inj (wn w) (wf w)) : ∀ n, n ≤ wn w → ∀ k, k < n → hI (tkA w kp h n) fL_isKnown (wf w k) = 1
  | 0, _, k, hk => absurd hk (Nat.not_lt_zero k)
  | n + 1, hn, k, hk => by
    unfold tkA
    obtain ⟨_, _, _, _, _, _, _, _, _, _, _, a, b⟩ := tkF_fr (tkA w kp h n) (wE w n) (kp n) (wf w n)
    by_cases q : k = n
    · rw [q]
      exact b
    · rw [a _ (fun z => q (hi k (by omega) n (by omega) z))]
      exact tkA_k1 hi n (by omega) k (by omega)
/-- the table of the fresh looks as they are -/
def zO (h : Hp) (Ee : Nat → Nat) : MM := fun e j => if 28 ≤ j then hI h (230 + j) (frs h (Ee e)) else if j < 14 then hA h (vls h (frs h (Ee e))) j else hA h (scs h (frs h (Ee e))) (j - 14)
theorem zO_R {S : MM} {n : Nat} {h : Hp} {Ee : Nat → Nat} : ZR (wO S n h Ee) h (zO h Ee) := fun e he => by
  refine ⟨fun f h1 h2 => ?_, fun j hj => ⟨?_, ?_⟩⟩
  · unfold zO
    rw [if_pos (by omega), show 230 + (f - 230) = f by omega]
    rfl
  · unfold zO
    rw [if_neg (by omega), if_pos hj]
    rfl
  · unfold zO
    rw [if_neg (by omega), if_neg (by omega), show 14 + j - 14 = j by omega]
    rfl
theorem st_s (l : Launch) (G : Gl) {A D : Nat → Nat} {m : Nat} {h : Hp} {S T : MM} {n R wt : Nat} {mt : Nat → Option Nat} {Ee : Nat → Nat} {is ss : List Nat} {ra : Nat → Nat} {pa : Nat → Nat → Nat} {Dd Pl dP : Nat → Nat} (TL : TLD A D m h T n R Ee is ss ra pa Dd Pl dP) (hT : TNR T n R) (hKO : KO h S n mt Ee) :
    ∃ (h2 : Hp) (d' j : Nat) (Y : MM), LE T Y n R ∧ VR Y n ∧ MRw l G yX11_settle (.code yX11_settle cX11_settle 4 none) 11 j (60 * j) [.ref (A 0), .int (nI wt)] h (.inl (none, h2)) ∧ TLD A (up9 D d') m h2 T n R Ee is ss ra pa Dd Pl dP ∧
      hI h2 fH_lastReached (A 0) = nI (wt + cn (df S Y mt) n) ∧ (∀ S', (∀ e, e < n → GV S' Y e ∧ GE S' Y e) → KO h2 S' n some Ee) ∧ MFR m h h2 ∧ FND A D h h2 d' ∧ j + Ph h2 d' ≤ Ph h (D 9) := by
  have hS := hT.1.1
  have h24 := hS.2.2.1
  have hg := TL.1
  have hFW := ex_FW TL hT.1
  have hHW := ex_HW TL
  have hKW := ex_KW TL
  have hER := ex_ER TL
  have hRR := ex_RR TL hT.2.2.2.2
  have hCC := ex_CC (S := T) (n := n) (h := h) (Ee := Ee)
  obtain ⟨Y, e1, hY, hr, hz⟩ := an_s hT.1 hER hRR hCC (zO h Ee)
  have hV := LE_VR hS hY hr hT.2.2.2.1
  have hE := TL.2.2.2.1
  have hX := TL.2.1
  have ww := TL.2.2.2.2.2.2.2.2
  have l9 := TL.2.2.1.2.2.1
  have hinj := TL.2.2.2.2.1.1
  obtain ⟨h', d', j, M, FW', HW', X, ph⟩ := c_settle l G (wt := nI wt) hFW hHW hKW (fun e he => ⟨uO_e hinj he, fun q hq => up_lt hS he hq⟩) (fun k hk => ⟨chn_ch k, fun x hx => (chl_m.mp hx).1⟩) (show n < 2 ^ 31 by omega) (by rw [ww]; exact e1)
  rw [cm_fix zO_R] at M
  have hZ := FW'.2.1
  have g' := FW'.1
  have hZ0 := ex_ZW TL hS
  obtain ⟨x0, x1, x2, x3, x4, x5, x6, x7, x8⟩ := X
  have lEe : ∀ e, e < n → Ee e < hN h ∧ kpt h (Ee e) < hN h ∧ frs h (Ee e) < hN h := fun e he => by
    obtain ⟨a, b, c, d, f⟩ := hE.2.1 _ (Ee_m (is := is) he)
    exact ⟨(kind_in hg a (by decide)).2, (kind_in hg f.1 (by decide)).2, (kind_in hg c.1 (by decide)).2⟩
  obtain ⟨w, ew⟩ : ∃ w, w = wO T n h Ee := ⟨_, rfl⟩
  have wn0 : wn w = n := by rw [ew]; rfl
  have wE0 : wE w = Ee := by rw [ew]; rfl
  have wf0 : ∀ e, wf w e = frs h (Ee e) := fun e => by rw [ew]; rfl
  have wv0 : ∀ e, wv w e = vls h (frs h (Ee e)) := fun e => by rw [ew]; rfl
  have ws0 : ∀ e, ws w e = scs h (frs h (Ee e)) := fun e => by rw [ew]; rfl
  rw [← ew] at M hZ x2 x3 x6 FW'
  obtain ⟨hb, ehb⟩ : ∃ z, z = cm w h' Y := ⟨_, rfl⟩
  rw [← ehb] at M
  have gb : Good hb := by rw [ehb]; exact good_cm g' hZ
  have bN : hN hb = hN h' := by rw [ehb]; rfl
  have bK : hK hb = hK h' := by rw [ehb]; rfl
  have bL : hL hb = hL h' := by rw [ehb]; rfl
  have bR : hR hb = hR h' := by rw [ehb]; rfl
  have bQ : hQ hb = hQ h' := by rw [ehb]; rfl
  have bW : hW hb = hW h' := by rw [ehb]; rfl
  obtain ⟨kp, ekp⟩ : ∃ kp : Nat → Nat, kp = fun e => kpt h (Ee e) := ⟨_, rfl⟩
  rw [← ekp] at M
  obtain ⟨ht, eht⟩ : ∃ z, z = tkA w kp hb (wn w) := ⟨_, rfl⟩
  rw [← eht] at M
  obtain ⟨ct, ect⟩ : ∃ z, z = cntS hb w kp (fun e => vls h (kpt h (Ee e))) (nI wt) (wn w) := ⟨_, rfl⟩
  rw [← ect] at M
  obtain ⟨t1, t2, t3, t4, t5, t6, t7, t8⟩ := tkA_fr w kp hb (wn w)
  rw [← eht] at t1 t2 t3 t4 t5 t6 t7 t8
  obtain ⟨_, s2, s3, s4⟩ := tkA_at w kp hb (by rw [wn0, wE0]; exact hinj) (wn w) (Nat.le_refl _)
  rw [← eht] at s2 s3 s4
  rw [wn0] at s2 s3 s4
  have gt : Good ht := by
    rw [eht]
    refine gd_tkA gb (fun e he => ?_) _ (Nat.le_refl _)
    rw [wn0] at he
    obtain ⟨a, b, c⟩ := lEe e he
    rw [bN, wE0, wf0, ekp]
    exact ⟨Nat.lt_of_lt_of_le a x0.1, Nat.lt_of_lt_of_le b x0.1, Nat.lt_of_lt_of_le c x0.1⟩
  have hA0 : A 0 < hN h := (kind_in hg hX.1.1 (by decide)).2
  obtain ⟨h2, eh2⟩ : ∃ z, z = sI ht fH_lastReached (A 0) ct := ⟨_, rfl⟩
  rw [← eh2] at M
  have g2 : Good h2 := by
    rw [eh2]
    exact gd_sI gt (by rw [t1, bN]; exact Nat.lt_of_lt_of_le hA0 x0.1)
  have N2 : hN h2 = hN h' := by rw [eh2, hN_sI, t1, bN]
  have K2 : hK h2 = hK h' := by rw [eh2, hK_sI, t2, bK]
  have L2 : hL h2 = hL h' := by rw [eh2, hL_sI, t3, bL]
  have A2 : hA h2 = hA hb := by rw [eh2, hA_sI, t4]
  have Q2 : hQ h2 = hQ h' := by rw [eh2, hQ_sI, t5, bQ]
  have W2 : hW h2 = hW h' := by rw [eh2, hW_sI, t6, bW]
  have R2 : ∀ f, f ≠ fE_kept → f ≠ fE_fresh → hR h2 f = hR h' f := fun f a b => by rw [eh2, hR_sI, t7 f a b, bR]
  have KP2 : KP h h2 := ⟨by rw [N2]; exact x0.1, fun a ha => by rw [K2, L2]; exact x0.2 a ha⟩
  have I2 : ∀ f x, f ≠ fH_lastReached → f ≠ fL_isKnown → hI h2 f x = hI hb f x := fun f x a b => by
    rw [eh2, iI_ne a, t8 f b]
  have In : ∀ f x, (f < 258 ∨ 266 < f) → f ≠ fH_lastReached → hI h2 f x = hI h' f x := fun f x a b => by
    rw [I2 f x b (fun z => by rw [z] at a; exact absurd a (by decide)), ehb]
    exact cm_In a
  have c9 := hX.2.2.1
  have k4 := hX.2.2.2.2.1
  have F : FND A D h h2 d' := by
    refine ⟨g2, KP2, fun f x a b c d => ?_, fun x hx => ?_, fun f a b c => ?_, fun x hx => ?_, fun x a b c => ?_, ⟨?_, ?_⟩, x1⟩
    · rw [In f x c d]
      exact x2 f x a b (c.elim Or.inl (fun z => Or.inr (Or.inl z)))
    · rw [In _ x (by decide) (by decide)]
      exact x3 _ x hx (Or.inl (by decide))
    · rw [R2 f b c]
      exact x4 f a
    · rw [R2 _ (by decide) (by decide)]
      exact x5 _ x hx
    · rw [Q2]
      exact x8 x a b c
    · obtain ⟨xs, a9⟩ := FW'.2.2.2.2.1.2.1
      refine ⟨xs, ?_⟩
      unfold AL at a9 ⊢
      rw [K2, L2, Q2, R2 _ (by decide) (by decide), In _ _ (by decide) (by decide)]
      exact a9
    · have := FW'.2.2.2.2.1.2.2.1
      unfold CP at this ⊢
      rw [L2]
      exact this
  have rv : hR h2 fL_values = hR h fL_values := (R2 _ (by decide) (by decide)).trans (x4 _ (by decide))
  have rs2 : hR h2 fL_sources = hR h fL_sources := (R2 _ (by decide) (by decide)).trans (x4 _ (by decide))
  have v2 : vls h2 = vls h := funext fun k => by unfold vls; rw [rv]
  have sc2 : scs h2 = scs h := funext fun k => by unfold scs; rw [rs2]
  have kf : ∀ e, e < n → hR h2 fE_kept (Ee e) = some (frs h (Ee e)) ∧ hR h2 fE_fresh (Ee e) = some (kpt h (Ee e)) := fun e he => by
    have := s2 e he
    rw [wE0, wf0, ekp] at this
    rw [eh2, hR_sI]
    exact this
  have k2 : ∀ e, e < n → kpt h2 (Ee e) = frs h (Ee e) := fun e he => by
    unfold kpt
    rw [(kf e he).1]
    rfl
  have hEnd := List.nodup_append.mp hE.1
  have ELS2 := ELS_sw (es := (List.range n).map Ee) (is := is) hg KP2 rv rs2 (fun x hx => by
    obtain ⟨e, he, rfl⟩ := List.mem_map.mp hx
    exact kf e (List.mem_range.mp he)) (fun x hx => by
    have := s4 x (fun k hk z => hEnd.2.2 (Ee k) (List.mem_map.mpr ⟨k, List.mem_range.mpr hk, rfl⟩) x hx (by rw [← wE0]; exact z))
    rw [bR, x4 _ (by decide), x4 _ (by decide)] at this
    rw [eh2, hR_sI]
    exact this) hE
  have TL2 := TLD_fr TL F ELS2
  obtain ⟨l1, l2, l3⟩ := lk_d hE
  obtain ⟨r0, r1, r2, r3, r4⟩ := ar_d hE
  -- the fresh looks hold the table, the kept ones are as before
  have fz : ∀ e, e < n → LKZ hb (frs h (Ee e)) (vls h (frs h (Ee e))) (scs h (frs h (Ee e))) Y e := fun e he => by
    have he' : e < wn w := by rw [wn0]; exact he
    rw [← wv0 e, ← ws0 e, ← wf0 e, ehb]
    exact ⟨fun p hp => ⟨cm_v hZ he' hp, cm_s hZ he' hp⟩, cm_I hZ he' (by decide) (by decide), cm_I hZ he' (by decide) (by decide), cm_I hZ he' (by decide) (by decide), cm_I hZ he' (by decide) (by decide), cm_I hZ he' (by decide) (by decide), cm_I hZ he' (by decide) (by decide)⟩
  have hAo : ∀ a, a ≠ A 5 → a ≠ A 6 → (∀ e, e < n → vls h (frs h (Ee e)) ≠ a ∧ scs h (frs h (Ee e)) ≠ a) → hA hb a = hA h a := fun a a5 a6 ha => by
    have ha' : ∀ e, e < wn w → wv w e ≠ a ∧ ws w e ≠ a := fun e he => by
      rw [wn0] at he
      rw [wv0, ws0]
      exact ha e he
    rw [ehb, cm_Af ha']
    exact x6 a a5 a6 ha'
  have hIo : ∀ f x, f ≠ fA_modCount → f ≠ fA_size → (∀ e, e < n → frs h (Ee e) ≠ x) → hI hb f x = hI h f x := fun f x f1 f2 hx => by
    have hx' : ∀ e, e < wn w → wf w e ≠ x := fun e he => by
      rw [wn0] at he
      rw [wf0]
      exact hx e he
    rw [ehb, cm_Ino hx']
    exact x2 f x f1 f2 (Or.inr (Or.inr hx'))
  have ko : ∀ e f, e < n → LKo h (kpt h (Ee e)) S f → LKo hb (kpt h (Ee e)) S f := fun e f he H => by
    have nk : ∀ e', e' < n → frs h (Ee e') ≠ kpt h (Ee e) := fun e' he' => l3 _ _ (Ee_m he') (Ee_m he)
    have vb : vls hb = vls h := funext fun k => by unfold vls; rw [bR, x4 _ (by decide)]
    have sb : scs hb = scs h := funext fun k => by unfold scs; rw [bR, x4 _ (by decide)]
    have m1 : kpt h (Ee e) ∈ lks h ((List.range n).map Ee ++ is) := kp_lk (Ee_m he)
    have q5 := r4 _ m1
    unfold LKo at *
    rw [vb, sb, hIo fL_isKnown _ (by decide) (by decide) nk, hIo fL_hasBox _ (by decide) (by decide) nk, hIo fL_left _ (by decide) (by decide) nk, hIo fL_top _ (by decide) (by decide) nk, hIo fL_width _ (by decide) (by decide) nk, hIo fL_height _ (by decide) (by decide) nk, hIo fL_lineCount _ (by decide) (by decide) nk]
    rw [hAo _ q5.1 q5.2.2.1 (fun e' he' => ⟨fun z => nk e' he' (r1 _ _ (fr_lk (Ee_m he')) m1 z), fun z => r3 _ _ m1 (fr_lk (Ee_m he')) z.symm⟩)]
    rw [hAo _ q5.2.1 q5.2.2.2 (fun e' he' => ⟨fun z => r3 _ _ (fr_lk (Ee_m he')) m1 z, fun z => nk e' he' (r2 _ _ (fr_lk (Ee_m he')) m1 z)⟩)]
    exact H
  have hw0 : ∀ e, e < n → Y e 29 ≠ 0 → 0 ≤ Y e 32 := fun e he => (hV e he).2.2.2.2
  have cte : ct = nI (wt + cn (df S Y mt) n) := by
    rw [ect, wn0]
    refine cnt_l n (fun e he => ?_)
    have hk := hKO e he
    unfold smS df
    rw [wf0, wv0, ekp]
    cases hm : mt e with
    | none =>
      rw [hm] at hk
      have hk : hI h fL_isKnown (kpt h (Ee e)) = 0 := hk
      have nk : ∀ e', e' < n → frs h (Ee e') ≠ kpt h (Ee e) := fun e' he' => l3 _ _ (Ee_m he') (Ee_m he)
      show (hI hb fL_isKnown (kpt h (Ee e)) ≠ 0 ∧ _) ↔ _
      rw [hIo fL_isKnown _ (by decide) (by decide) nk, hk]
      exact ⟨fun z => absurd rfl z.1, fun z => Bool.noConfusion z⟩
    | some f =>
      rw [hm] at hk
      have hk := ko e f he hk
      have hs := lsm_sm hk (fz e he) (box01 hS hY he) (hw0 e he) (hz e he)
      have vb : vls hb = vls h := funext fun k => by unfold vls; rw [bR, x4 _ (by decide)]
      rw [vb] at hs
      show (hI hb fL_isKnown (kpt h (Ee e)) ≠ 0 ∧ lsm hb (kpt h (Ee e)) (vls h (kpt h (Ee e))) (frs h (Ee e)) (vls h (frs h (Ee e)))) ↔ (!(smY S Y e f)) = false
      rw [hs, hk.1]
      cases smY S Y e f
      · exact ⟨fun z => Bool.noConfusion z.2, fun z => Bool.noConfusion z⟩
      · exact ⟨fun _ => rfl, fun _ => ⟨by decide, rfl⟩⟩
  refine ⟨h2, d', j, Y, hY, hV, M, TL2, ?_, fun S' hS' => ?_, ⟨KP2, fun f x hf => ?_, fun f hf => ?_, fun x h1 h2' => ?_, by rw [W2]; exact x7⟩, F, ?_⟩
  · rw [eh2]
    rw [iI_at]
    exact cte
  · intro e he
    obtain ⟨gv, ge⟩ := hS' e he
    show LKo h2 (kpt h2 (Ee e)) S' e
    rw [k2 e he]
    refine LKZ_o (Y := Y) ?_ ?_ (box01 hS hY he) (hw0 e he) (hz e he) gv ge
    · have := (tkA_k1 (w := w) (kp := kp) (h := hb) (by rw [wn0]; exact fun a ha b hb z => hZ.2.1 a (by rw [wn0]; exact ha) b (by rw [wn0]; exact hb) z) (wn w) (Nat.le_refl _) e (by rw [wn0]; exact he))
      rw [← eht, wf0] at this
      rw [eh2, iI_ne (by decide)]
      exact this
    · have := fz e he
      unfold LKZ at this ⊢
      rw [v2, sc2, A2, I2 _ _ (by decide) (by decide), I2 _ _ (by decide) (by decide), I2 _ _ (by decide) (by decide), I2 _ _ (by decide) (by decide), I2 _ _ (by decide) (by decide), I2 _ _ (by decide) (by decide)]
      exact this
  · rw [In f x (Or.inr (by omega)) (fun z => by rw [z] at hf; exact absurd hf (by decide))]
    exact x2 f x (fun z => by rw [z] at hf; exact absurd hf (by decide)) (fun z => by rw [z] at hf; exact absurd hf (by decide)) (Or.inr (Or.inl (by omega)))
  · rw [R2 f (fun z => by rw [z] at hf; exact absurd hf (by decide)) (fun z => by rw [z] at hf; exact absurd hf (by decide))]
    exact x4 f (fun z => by rw [z] at hf; exact absurd hf (by decide))
  · rw [A2]
    have o := hE.2.2.2.2
    refine hAo x (fun z => ?_) (fun z => ?_) (fun e he => ⟨fun z => ?_, fun z => ?_⟩)
    · have := o (A 5) List.mem_cons_self
      omega
    · have := o (A 6) (List.mem_cons_of_mem _ List.mem_cons_self)
      omega
    · have := o (vls h (frs h (Ee e))) (List.mem_cons_of_mem _ (List.mem_cons_of_mem _ (List.mem_append_left _ (List.mem_map.mpr ⟨_, fr_lk (Ee_m he), rfl⟩))))
      omega
    · have := o (scs h (frs h (Ee e))) (List.mem_cons_of_mem _ (List.mem_cons_of_mem _ (List.mem_append_right _ (List.mem_map.mpr ⟨_, fr_lk (Ee_m he), rfl⟩))))
      omega
  · have : Ph h2 d' = Ph h' d' := by
      unfold Ph
      rw [L2]
    rw [this]
    exact ph
