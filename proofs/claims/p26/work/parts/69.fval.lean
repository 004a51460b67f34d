/-! ===== Cascade.findValues over the table of the looks ===== -/
/-- from base to base: the list at l has the row d', the cascade's rows and what the table holds may differ, all else is as it was -/
def XF (w : WZ) (h h' : Hp) (l d d' K P N : Nat) : Prop :=
  KP h h' ∧ (d' = d ∨ hN h ≤ d') ∧ (∀ f b, f ≠ fA_modCount → f ≠ fA_size → (f < 258 ∨ 266 < f ∨ ∀ e, e < wn w → wf w e ≠ b) → hI h' f b = hI h f b) ∧
  (∀ f b, b ≠ l → (f < 258 ∨ 266 < f ∨ ∀ e, e < wn w → wf w e ≠ b) → hI h' f b = hI h f b) ∧
  (∀ f, f ≠ fA_elementData → hR h' f = hR h f) ∧ (∀ f b, b ≠ l → hR h' f b = hR h f b) ∧ (∀ b, b ≠ P → b ≠ N → (∀ e, e < wn w → wv w e ≠ b ∧ ws w e ≠ b) → hA h' b = hA h b) ∧ hW h' = hW h ∧
  (∀ b, b < hN h → b ≠ d → b ≠ K → hQ h' b = hQ h b)
theorem XF_r (w : WZ) (h : Hp) (l d K P N : Nat) : XF w h h l d d K P N :=
  ⟨KP_r h, Or.inl rfl, fun _ _ _ _ _ => rfl, fun _ _ _ _ => rfl, fun _ _ => rfl, fun _ _ _ => rfl, fun _ _ _ _ => rfl, rfl, fun _ _ _ _ => rfl⟩
theorem XF_t {w : WZ} {h h1 h2 : Hp} {l d d1 d2 K P N : Nat} (A : XF w h h1 l d d1 K P N) (B : XF w h1 h2 l d1 d2 K P N) : XF w h h2 l d d2 K P N := by
  obtain ⟨a0, a1, a2, a3, a4, a5, a6, a7, a8⟩ := A
  obtain ⟨b0, b1, b2, b3, b4, b5, b6, b7, b8⟩ := B
  refine ⟨KP_t a0 b0, ?_, fun f b x z y => (b2 f b x z y).trans (a2 f b x z y), fun f b hb y => (b3 f b hb y).trans (a3 f b hb y), fun f hf => (b4 f hf).trans (a4 f hf), fun f b hb => (b5 f b hb).trans (a5 f b hb), fun b x z y => (b6 b x z y).trans (a6 b x z y), b7.trans a7, fun b hb hd hk => ?_⟩
  · rcases b1 with e | e
    · rw [e]; exact a1
    · exact Or.inr (Nat.le_trans a0.1 e)
  · refine (b8 b (Nat.lt_of_lt_of_le hb a0.1) ?_ hk).trans (a8 b hb hd hk)
    rcases a1 with e | e
    · rw [e]; exact hd
    · omega
theorem XF_RE {w : WZ} {h h' : Hp} {l d d' K P N : Nat} (F : XF w h h' l d d' K P N) : RE h h' := fun f z => F.2.2.2.2.1 f (by
  rcases z with z | z | z | z | z | z | z | z | z <;> (rw [z]; decide))
/-- an integer field that no look has -/
theorem XF_I {w : WZ} {h h' : Hp} {l d d' K P N : Nat} (F : XF w h h' l d d' K P N) {f : Nat} (h1 : f ≠ fA_modCount) (h2 : f ≠ fA_size) (h3 : f < 258 ∨ 266 < f) : hI h' f = hI h f := funext fun b => F.2.2.1 f b h1 h2 (h3.elim Or.inl (fun z => Or.inr (Or.inl z)))
theorem XF_AL {w : WZ} {h h' : Hp} {l d d' K P N l2 d2 : Nat} {ys : List Nat} (hg : Good h) (F : XF w h h' l d d' K P N) (hK2 : hK h K = 104) (H : AL h l2 d2 ys) (hl : l2 ≠ l) (hd : d2 = d → d2 = 4) : AL h' l2 d2 ys := by
  obtain ⟨a0, a1, a2, a3, a4, a5, a6, a7, a8⟩ := F
  obtain ⟨h1, h2, h3, h4, h5⟩ := H
  refine ⟨KP_k hg a0 h1 (by decide), (a3 _ _ hl (Or.inl (by decide))).trans h2, (a5 _ _ hl).trans h3, h4, ?_⟩
  rcases h5 with h5 | ⟨q1, q2, q3, q4, q5⟩
  · exact Or.inl h5
  · have hl2 : hL h' d2 = hL h d2 := KP_l hg a0 q2 (by decide)
    refine Or.inr ⟨q1, KP_k hg a0 q2 (by decide), by rw [hl2]; exact q3, by rw [hl2]; exact q4, fun i x hi => ?_⟩
    rw [a8 d2 (kind_in hg q2 (by decide)).2 (fun z => by have := hd z; omega) (fun z => by rw [z, hK2] at q2; cases q2)]
    exact q5 i x hi
theorem XF_RW {w : WZ} {h h' : Hp} {l d d' K P N : Nat} {rs : List Nat} {pts : Nat → List Nat} (hg : Good h) (F : XF w h h' l d d' K P N) (hK2 : hK h K = 104) (H : RW h rs pts l d) : RW h' rs pts l d' := fun r hr => by
  obtain ⟨h1, Q, dP, h2, h3, h4, h5, h6, h7⟩ := H r hr
  have F0 := F
  obtain ⟨a0, a1, a2, a3, a4, a5, a6, a7, a8⟩ := F
  refine ⟨KP_k hg a0 h1 (by decide), Q, dP, by rw [a4 _ (by decide)]; exact h2, XF_AL hg F0 hK2 h3 h6 h7, h4, fun q hq => KP_k hg a0 (h5 q hq) (by decide), h6, fun z => ?_⟩
  rcases a1 with e | e
  · exact h7 (z.trans e)
  · rcases h3.2.2.2.2 with ⟨q, -⟩ | ⟨-, q, -⟩
    · exact q
    · have := (kind_in hg q (by decide)).2
      omega
/-- the declarations of the rules -/
def UW (h : Hp) (ss : List Nat) (Ds : Nat → Nat) : Prop := ∀ r, r ∈ ss → UD h r (Ds r) ∧ ∀ p d, p < 14 → hQ h (Ds r) p = some d → hK h d = 2 ∧ (hI h fD_kind d = 5 → ∃ v, v < 4 ∧ hI h fD_variable d = nI v)
theorem XF_Q {w : WZ} {h h' : Hp} {l d d' K P N a : Nat} (hg : Good h) (F : XF w h h' l d d' K P N) (hK2 : hK h K = 104) (hd : d = 4 ∨ hK h d = 103) (ha : hK h a = 105) : hQ h' a = hQ h a :=
  F.2.2.2.2.2.2.2.2 a (kind_in hg ha (by decide)).2 (fun z => by
    rcases hd with y | y
    · have := (kind_in hg ha (by decide)).1
      omega
    · rw [z, y] at ha
      cases ha) (fun z => by rw [z, hK2] at ha; cases ha)
theorem XF_UW {w : WZ} {h h' : Hp} {l d d' K P N : Nat} {ss : List Nat} {Ds : Nat → Nat} (hg : Good h) (F : XF w h h' l d d' K P N) (hK2 : hK h K = 104) (hd : d = 4 ∨ hK h d = 103) (H : UW h ss Ds) : UW h' ss Ds := fun r hr => by
  obtain ⟨⟨u1, u2, u3, u4⟩, u5⟩ := H r hr
  have F0 := F
  obtain ⟨a0, a1, a2, a3, a4, a5, a6, a7, a8⟩ := F
  refine ⟨⟨KP_k hg a0 u1 (by decide), by rw [a4 _ (by decide)]; exact u2, KP_k hg a0 u3 (by decide), by rw [KP_l hg a0 u3 (by decide)]; exact u4⟩, fun p dd hp hq => ?_⟩
  rw [XF_Q hg F0 hK2 hd u3] at hq
  obtain ⟨v1, v2⟩ := u5 p dd hp hq
  refine ⟨KP_k hg a0 v1 (by decide), fun z => ?_⟩
  rw [XF_I F0 (by decide) (by decide) (Or.inl (by decide))] at z ⊢
  exact v2 z
theorem XF_ZW {w : WZ} {h h' : Hp} {l d d' K P N : Nat} (hg : Good h) (F : XF w h h' l d d' K P N) (hZ : ZW w h) : ZW w h' := by
  have F0 := F
  obtain ⟨a0, a1, a2, a3, a4, a5, a6, a7, a8⟩ := F
  obtain ⟨z1, z2, z3, z4, z5, z6, z7⟩ := hZ
  refine ⟨fun e he => ?_, z2, z3, z4, z5, fun f e he h1 h2 => ?_, fun f e he h1 h2 => ?_⟩
  · obtain ⟨x1, x2, y1, y2, y3, y4, y5, y6, y7⟩ := z1 e he
    exact ⟨KP_k hg a0 x1 (by decide), by rw [a4 _ (by decide)]; exact x2, KP_k hg a0 y1 (by decide), by rw [a4 _ (by decide)]; exact y2, by rw [a4 _ (by decide)]; exact y3, KP_k hg a0 y4 (by decide), by rw [KP_l hg a0 y4 (by decide)]; exact y5, KP_k hg a0 y6 (by decide), by rw [KP_l hg a0 y6 (by decide)]; exact y7⟩
  · rw [a4 f (by show f ≠ 1; omega)]
    exact z6 f e he h1 h2
  · rw [XF_I F0 (by show f ≠ 0; omega) (by show f ≠ 2; omega) (Or.inl (by omega))]
    exact z7 f e he h1 h2
theorem XF_CW {w : WZ} {h h' : Hp} {l d d' K P N c : Nat} (hg : Good h) (F : XF w h h' l d d' K P N) (hC : CW w h c K P N) : CW w h' c K P N := by
  have F0 := F
  obtain ⟨a0, a1, a2, a3, a4, a5, a6, a7, a8⟩ := F
  obtain ⟨c1, c2, c3, c4, c5, c6, c7, c8, c9, c10, c11, cE, cP, cN⟩ := hC
  exact ⟨KP_k hg a0 c1 (by decide), by rw [a4 _ (by decide)]; exact c2, KP_k hg a0 c3 (by decide), by rw [KP_l hg a0 c3 (by decide)]; exact c4, by rw [a4 _ (by decide)]; exact c5, KP_k hg a0 c6 (by decide), by rw [KP_l hg a0 c6 (by decide)]; exact c7, by rw [a4 _ (by decide)]; exact c8, KP_k hg a0 c9 (by decide), by rw [KP_l hg a0 c9 (by decide)]; exact c10, c11, fun e he => KP_EW hg a0 (XF_RE F0) (cE e he), cP, cN⟩
/-- all that finding values wants of the base -/
def FW (w : WZ) (h : Hp) (c b K P N S L dS d : Nat) (ss : List Nat) (pts : Nat → List Nat) (Ds : Nat → Nat) (U : Nat → List Nat) : Prop :=
  Good h ∧ ZW w h ∧ CW w h c K P N ∧ (hR h fC_book c = some b ∧ hK h b = 7 ∧ hR h fB_byStrength b = some S ∧ AL h S dS ss ∧ ss.length ≤ 16) ∧
  (hR h fC_listed c = some L ∧ (∃ xs, AL h L d xs) ∧ CP h d ∧ S ≠ L ∧ (dS = d → dS = 4)) ∧ RW h ss pts L d ∧ UW h ss Ds ∧ TW h ((List.range (wn w)).map (wE w)) U
theorem AL_d {h : Hp} {L d : Nat} {xs : List Nat} (H : AL h L d xs) : d = 4 ∨ hK h d = 103 := by
  rcases H.2.2.2.2 with ⟨q, -⟩ | ⟨-, q, -⟩
  · exact Or.inl q
  · exact Or.inr q
theorem FW_X {w : WZ} {h h' : Hp} {c b K P N S L dS d d' : Nat} {ss xs' : List Nat} {pts : Nat → List Nat} {Ds : Nat → Nat} {U : Nat → List Nat} (H : FW w h c b K P N S L dS d ss pts Ds U) (F : XF w h h' L d d' K P N) (hg' : Good h') (hA : AL h' L d' xs') (hc : CP h' d') : FW w h' c b K P N S L dS d' ss pts Ds U := by
  obtain ⟨hg, hZ, hC, ⟨b1, b2, b3, b4, b5⟩, ⟨l1, ⟨xs, l2⟩, l3, l4, l5⟩, hR, hU, hT⟩ := H
  have hK2 := hC.2.2.1
  have a4 := F.2.2.2.2.1
  refine ⟨hg', XF_ZW hg F hZ, XF_CW hg F hC, ⟨by rw [a4 _ (by decide)]; exact b1, KP_k hg F.1 b2 (by decide), by rw [a4 _ (by decide)]; exact b3, XF_AL hg F hK2 b4 l4 l5, b5⟩, ⟨by rw [a4 _ (by decide)]; exact l1, ⟨xs', hA⟩, hc, l4, fun z => ?_⟩, XF_RW hg F hK2 hR, XF_UW hg F hK2 (AL_d l2) hU, KP_TW hg F.1 (XF_RE F) hT⟩
  rcases F.2.1 with e | e
  · exact l5 (z.trans e)
  · rcases AL_d b4 with q | q
    · exact q
    · have := (kind_in hg q (by decide)).2
      omega
theorem good_cm {w : WZ} {h : Hp} {Z : MM} (hg : Good h) (hZ : ZW w h) : Good (cm w h Z) := by
  obtain ⟨g1, g2, g3, g4, g5, g6, g7⟩ := hg
  have hg0 : Good h := ⟨g1, g2, g3, g4, g5, g6, g7⟩
  refine ⟨g1, g2, fun a ha => ⟨(g3 a ha).1, fun f => ⟨?_, ((g3 a ha).2.1 f).2⟩, fun j => ⟨?_, ((g3 a ha).2.2 j).2⟩⟩, g4, g5, g6, g7⟩
  · have hn : ∀ e, e < wn w → wf w e ≠ a := fun e he z => by
      have := (kind_in hg0 (hZ.1 e he).2.2.1 (by decide)).2
      have ha' : hN h ≤ a := ha
      omega
    show (if 258 ≤ f ∧ f ≤ 266 then (match fi (wn w) (wf w) a with | some e => Z e (f - 230) | none => hI h f a) else hI h f a) = 0
    rw [fi_no hn]
    by_cases q : 258 ≤ f ∧ f ≤ 266
    · rw [if_pos q]; exact ((g3 a ha).2.1 f).1
    · rw [if_neg q]; exact ((g3 a ha).2.1 f).1
  · have hn : ∀ e, e < wn w → wv w e ≠ a ∧ ws w e ≠ a := fun e he => by
      obtain ⟨-, -, -, -, -, y4, -, y6, -⟩ := hZ.1 e he
      have h1 := (kind_in hg0 y4 (by decide)).2
      have h2 := (kind_in hg0 y6 (by decide)).2
      have ha' : hN h ≤ a := ha
      exact ⟨by omega, by omega⟩
    rw [cm_An hn]
    exact ((g3 a ha).2.2 j).1
