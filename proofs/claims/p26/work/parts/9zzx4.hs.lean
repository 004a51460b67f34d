/-! ===== the two houses and the law's rows in one heap ===== -/
/-- the house at H, its cells P, what is told of it -/
def HS (b : Hp) (H : Nat) (P : Nat → Prop) (S : MM) (k n R : Nat) : Prop := ∃ (s : Hp) (σ A : Nat → Nat), Emb σ s b ∧ CJ A s S k n R ∧ σ (A 0) = H ∧ ∀ x, P x ↔ ∃ a, 6 ≤ a ∧ a < hN s ∧ σ a = x
/-- what a call on one house leaves: its cells grow, all other cells stay -/
def FRM (b b' : Hp) (P P' : Nat → Prop) : Prop := Good b' ∧ hN b ≤ hN b' ∧ (∀ x, P x → P' x) ∧ (∀ x, P' x → P x ∨ hN b ≤ x) ∧ ∀ x, x < hN b → ¬ P x → SM b b' x
theorem CJ_good {A : Nat → Nat} {s : Hp} {S : MM} {k n R : Nat} (H : CJ A s S k n R) : Good s ∧ 6 ≤ A 0 ∧ A 0 < hN s ∧ hK s (A 0) = 9 := by
  obtain ⟨m, D, Ee, is, ss, ra, pa, Dd, Pl, dP, T, _⟩ := H
  have := kind_in T.1 T.2.1.1.1 (by decide)
  exact ⟨T.1, this.1, this.2, T.2.1.1.1⟩
theorem HS_k {b : Hp} {H : Nat} {P : Nat → Prop} {S : MM} {k n R : Nat} (W : HS b H P S k n R) : hK b H = 9 ∧ 6 ≤ H ∧ H < hN b ∧ P H := by
  obtain ⟨s, σ, A, E, C, e, hP⟩ := W
  obtain ⟨g, a6, an, ak⟩ := CJ_good C
  obtain ⟨u, v⟩ := E.2.1 _ a6 an
  rw [← e]
  exact ⟨(E.2.2.2 _ a6 an).1.trans ak, u, v, (hP _).mpr ⟨_, a6, an, rfl⟩⟩
theorem HS_lt {b : Hp} {H : Nat} {P : Nat → Prop} {S : MM} {k n R : Nat} (W : HS b H P S k n R) {x : Nat} (hx : P x) : 6 ≤ x ∧ x < hN b := by
  obtain ⟨s, σ, A, E, C, e, hP⟩ := W
  obtain ⟨a, a6, an, rfl⟩ := (hP x).mp hx
  exact E.2.1 a a6 an
theorem SM_r (b : Hp) (x : Nat) : SM b b x := ⟨rfl, rfl, fun _ => rfl, fun _ => rfl, rfl, rfl, rfl⟩
theorem SM_t {b b1 b2 : Hp} {x : Nat} (A : SM b b1 x) (B : SM b1 b2 x) : SM b b2 x := by
  obtain ⟨a1, a2, a3, a4, a5, a6, a7⟩ := A
  obtain ⟨c1, c2, c3, c4, c5, c6, c7⟩ := B
  exact ⟨c1.trans a1, c2.trans a2, fun f => (c3 f).trans (a3 f), fun f => (c4 f).trans (a4 f), c5.trans a5, c6.trans a6, c7.trans a7⟩
/-- a house whose cells stay -/
theorem hs_fr {b b' : Hp} {H : Nat} {P : Nat → Prop} {S : MM} {k n R : Nat} (W : HS b H P S k n R) (hn : hN b ≤ hN b') (h : ∀ x, P x → SM b b' x) : HS b' H P S k n R := by
  obtain ⟨s, σ, A, E, C, e, hP⟩ := W
  refine ⟨s, σ, A, ⟨E.1, fun a h6 ha => ⟨(E.2.1 a h6 ha).1, Nat.lt_of_lt_of_le (E.2.1 a h6 ha).2 hn⟩, E.2.2.1, fun a h6 ha => ?_⟩, C, e, hP⟩
  obtain ⟨c1, c2, c3, c4, c5, c6, c7⟩ := h _ ((hP _).mpr ⟨a, h6, ha, rfl⟩)
  obtain ⟨a1, a2, a3, a4, a5, a6, a7⟩ := E.2.2.2 a h6 ha
  exact ⟨c1.trans a1, c2.trans a2, fun f => (c3 f).trans (a3 f), fun f => (c4 f).trans (a4 f), c5.trans a5, fun j => by rw [c6]; exact a6 j, c7.trans a7⟩
theorem FRM_r {b : Hp} {P : Nat → Prop} (gb : Good b) : FRM b b P P := ⟨gb, Nat.le_refl _, fun _ h => h, fun _ h => Or.inl h, fun x _ _ => SM_r b x⟩
theorem jn_FRM {σ : Nat → Nat} {s s' b : Hp} {P : Nat → Prop} (E : Emb σ s b) (gs : Good s) (gs' : Good s') (gb : Good b) (hn : hN s ≤ hN s') (hP : ∀ x, P x ↔ ∃ a, 6 ≤ a ∧ a < hN s ∧ σ a = x) :
    FRM b (jn σ s s' b) P (fun x => ∃ a, 6 ≤ a ∧ a < hN s' ∧ sg' σ (hN s) (hN b) a = x) := by
  refine ⟨jn_good E gs gs' gb hn, Nat.le_add_right _ _, fun x hx => ?_, fun x hx => ?_, fun x hx hp => jn_SM (iv_none hx (fun a h6 ha e => hp ((hP x).mpr ⟨a, h6, ha, e⟩)))⟩
  · obtain ⟨a, h6, ha, e⟩ := (hP x).mp hx
    exact ⟨a, h6, Nat.lt_of_lt_of_le ha hn, by rw [sg_o ha]; exact e⟩
  · obtain ⟨a, h6, ha, e⟩ := hx
    by_cases q : a < hN s
    · rw [sg_o q] at e
      exact Or.inl ((hP x).mpr ⟨a, h6, q, e⟩)
    · rw [sg_n (by omega)] at e
      exact Or.inr (by omega)
/-- a call on the house -/
theorem hs_op {l : Launch} {G : Gl} {y : MethodName} {w : Cond} {f mc ms : Nat} {as : List Value} {b s s' : Hp} {σ A : Nat → Nat} {H : Nat} {P : Nat → Prop} {S S' : MM} {k n R k' n' R' : Nat} {v : Option Value} (gb : Good b) (E : Emb σ s b) (C : CJ A s S k n R) (eH : σ (A 0) = H) (hP : ∀ x, P x ↔ ∃ a, 6 ≤ a ∧ a < hN s ∧ σ a = x)
    (M : MRw l G y w f mc ms (.ref (A 0) :: as) s (.inl (v, s'))) (C' : CJ A s' S' k' n' R') (K : STY s s') (ha : ∀ (τ : Nat → Nat) (u : Value), u ∈ as → upv τ u = u) (hvv : ∀ τ : Nat → Nat, v.map (upv τ) = v) (hvl : vl (hN s) as) :
    ∃ (b' : Hp) (P' : Nat → Prop), MRw l G y w f mc ms (.ref H :: as) b (.inl (v, b')) ∧ HS b' H P' S' k' n' R' ∧ FRM b b' P P' := by
  obtain ⟨g, a6, an, ak⟩ := CJ_good C
  have M2 := fr_mr (b := b) (σ := σ) G M E g K.1 K.2.1.1 (vl_c an hvl)
  have e1 : (Value.ref (A 0) :: as).map (upv σ) = .ref H :: as := by
    rw [List.map_cons]
    show Value.ref (σ (A 0)) :: _ = _
    rw [eH]
    congr 1
    exact (List.map_congr_left (fun u hu => ha σ u hu)).trans (List.map_id _)
  rw [e1] at M2
  have e2 : rsJ σ s b (.inl (v, s')) = .inl (v, jn σ s s' b) := by
    show Sum.inl (v.map (upv (sg' σ (hN s) (hN b))), jn σ s s' b) = _
    rw [hvv]
  rw [e2] at M2
  exact ⟨_, _, M2, ⟨s', sg' σ (hN s) (hN b), A, jn_Emb E g gb K.2.1.1, C', by rw [sg_o an]; exact eH, fun x => Iff.rfl⟩, jn_FRM E g K.1 gb K.2.1.1 hP⟩
theorem hs_ox {l : Launch} {G : Gl} {y : MethodName} {w : Cond} {f mc ms : Nat} {as : List Value} {b s s' : Hp} {σ A : Nat → Nat} {H : Nat} {P : Nat → Prop} {S S' : MM} {k n R k' n' R' : Nat} {X : String} (gb : Good b) (E : Emb σ s b) (C : CJ A s S k n R) (eH : σ (A 0) = H) (hP : ∀ x, P x ↔ ∃ a, 6 ≤ a ∧ a < hN s ∧ σ a = x)
    (M : MRw l G y w f mc ms (.ref (A 0) :: as) s (.inr (X, s'))) (C' : CJ A s' S' k' n' R') (K : STY s s') (ha : ∀ (τ : Nat → Nat) (u : Value), u ∈ as → upv τ u = u) (hvl : vl (hN s) as) :
    ∃ (b' : Hp) (P' : Nat → Prop), MRw l G y w f mc ms (.ref H :: as) b (.inr (X, b')) ∧ HS b' H P' S' k' n' R' ∧ FRM b b' P P' := by
  obtain ⟨g, a6, an, ak⟩ := CJ_good C
  have M2 := fr_mr (b := b) (σ := σ) G M E g K.1 K.2.1.1 (vl_c an hvl)
  have e1 : (Value.ref (A 0) :: as).map (upv σ) = .ref H :: as := by
    rw [List.map_cons]
    show Value.ref (σ (A 0)) :: _ = _
    rw [eH]
    congr 1
    exact (List.map_congr_left (fun u hu => ha σ u hu)).trans (List.map_id _)
  rw [e1] at M2
  exact ⟨_, _, M2, ⟨s', sg' σ (hN s) (hN b), A, jn_Emb E g gb K.2.1.1, C', by rw [sg_o an]; exact eH, fun x => Iff.rfl⟩, jn_FRM E g K.1 gb K.2.1.1 hP⟩
/-- a call that only reads: the heap is the same -/
theorem jn_self {σ : Nat → Nat} {s b : Hp} (E : Emb σ s b) (gs : Good s) (gb : Good b) : jn σ s s b = b := by
  have cell : ∀ x, SM b (jn σ s s b) x := fun x => by
    cases hq : iv σ (hN s) (hN b) (hN s) x with
    | none => exact jn_SM hq
    | some a =>
      obtain ⟨u1, u2, u3⟩ := iv_no (Nat.le_refl _) hq gs.1
      have c := jn_SC (σ := σ) (s := s) (s' := s) (b := b) (a := a) (by rw [u3]; exact hq)
      have d := E.2.2.2 a u1 u2
      have es : ∀ o : Option Nat, (∀ w, o = some w → w < hN s) → o.map (sg' σ (hN s) (hN b)) = o.map σ := fun o ho => by
        cases o with
        | none => rfl
        | some w => exact congrArg some (sg_o (ho w rfl))
      unfold SC at c
      rw [u3] at c
      rw [sg_o u2] at u3
      unfold SC at d
      rw [u3] at d
      obtain ⟨c1, c2, c3, c4, c5, c6, c7⟩ := c
      obtain ⟨d1, d2, d3, d4, d5, d6, d7⟩ := d
      refine ⟨c1.trans d1.symm, c2.trans d2.symm, fun f => (c3 f).trans (d3 f).symm, fun f => ?_, c5.trans d5.symm, funext fun j => ?_, c7.trans d7.symm⟩
      · rw [c4, d4]
        exact es _ (fun w hw => gs.2.2.2.1 f a w hw)
      · rw [c6, d6]
        exact es _ (fun w hw => gs.2.2.2.2.1 a j w hw)
  have e0 : hN (jn σ s s b) = hN b := by
    show hN b + (hN s - hN s) = hN b
    omega
  have e1 : hK (jn σ s s b) = hK b := funext fun x => (cell x).1
  have e2 : hL (jn σ s s b) = hL b := funext fun x => (cell x).2.1
  have e3 : hI (jn σ s s b) = hI b := funext fun f => funext fun x => (cell x).2.2.1 f
  have e4 : hR (jn σ s s b) = hR b := funext fun f => funext fun x => (cell x).2.2.2.1 f
  have e5 : hA (jn σ s s b) = hA b := funext fun x => (cell x).2.2.2.2.1
  have e6 : hQ (jn σ s s b) = hQ b := funext fun x => (cell x).2.2.2.2.2.1
  have e7 : hW (jn σ s s b) = hW b := funext fun x => (cell x).2.2.2.2.2.2
  obtain ⟨j, ej⟩ : ∃ j, j = jn σ s s b := ⟨_, rfl⟩
  rw [← ej] at e0 e1 e2 e3 e4 e5 e6 e7 ⊢
  obtain ⟨j0, j1, j2, j3, j4, j5, j6, j7⟩ := j
  obtain ⟨b0, b1, b2, b3, b4, b5, b6, b7⟩ := b
  cases e0
  cases e1
  cases e2
  cases e3
  cases e4
  cases e5
  cases e6
  cases e7
  rfl
theorem hs_rd {l : Launch} {G : Gl} {y : MethodName} {w : Cond} {f mc ms : Nat} {as : List Value} {b s : Hp} {σ A : Nat → Nat} {H : Nat} {S : MM} {k n R : Nat} {v : Option Value} (gb : Good b) (E : Emb σ s b) (C : CJ A s S k n R) (eH : σ (A 0) = H)
    (M : MRw l G y w f mc ms (.ref (A 0) :: as) s (.inl (v, s))) (ha : ∀ (τ : Nat → Nat) (u : Value), u ∈ as → upv τ u = u) (hvv : ∀ τ : Nat → Nat, v.map (upv τ) = v) (hvl : vl (hN s) as) : MRw l G y w f mc ms (.ref H :: as) b (.inl (v, b)) := by
  obtain ⟨g, a6, an, ak⟩ := CJ_good C
  have M2 := fr_mr (b := b) (σ := σ) G M E g g (Nat.le_refl _) (vl_c an hvl)
  have e1 : (Value.ref (A 0) :: as).map (upv σ) = .ref H :: as := by
    rw [List.map_cons]
    show Value.ref (σ (A 0)) :: _ = _
    rw [eH]
    congr 1
    exact (List.map_congr_left (fun u hu => ha σ u hu)).trans (List.map_id _)
  rw [e1] at M2
  have e2 : rsJ σ s b (.inl (v, s)) = .inl (v, b) := by
    show Sum.inl (v.map (upv (sg' σ (hN s) (hN b))), jn σ s s b) = _
    rw [hvv, jn_self E g gb]
  rw [e2] at M2
  exact M2
/-- a new house -/
def e1S (h : Hp) (a : Nat) : Nat := if a < 6 then a else hN h
def h00 : Hp := (6, fun _ => 999, fun _ => 0, fun _ _ => 0, fun _ _ => none, fun _ _ => 0, fun _ _ => none, fun _ _ => 0)
theorem good_00 : Good h00 := ⟨Nat.le_refl 6, fun _ _ => rfl, fun _ _ => ⟨rfl, fun _ => ⟨rfl, rfl⟩, fun _ => ⟨rfl, rfl, rfl⟩⟩, fun _ _ _ h => (by cases h), fun _ _ _ h => (by cases h), fun a h1 h2 => absurd h1 (Nat.not_le.mpr h2), fun _ => (show 0 < 2 ^ 31 by decide)⟩
theorem e1_Emb {b : Hp} (gb : Good b) : Emb (e1S b) (nw h00 9 0) (nw b 9 0) := by
  have b6 := gb.1
  have n1 : hN (nw h00 9 0) = 7 := hN_nw h00 9 0
  have n2 : hN (nw b 9 0) = hN b + 1 := hN_nw b 9 0
  have at6 : ∀ a, 6 ≤ a → e1S b a = hN b := fun a ha => if_neg (by omega)
  obtain ⟨z1, z2, z3⟩ := gb.2.2.1 (hN b) (Nat.le_refl _)
  refine ⟨fun i hi => if_pos hi, fun a h6 ha => ?_, fun x hx y hy e => ?_, fun a h6 ha => ?_⟩
  · rw [at6 a h6, n2]
    omega
  · rw [n1] at hx hy
    unfold e1S at e
    by_cases q : x < 6
    · by_cases z : y < 6
      · rw [if_pos q, if_pos z] at e
        exact e
      · rw [if_pos q, if_neg z] at e
        omega
    · by_cases z : y < 6
      · rw [if_neg q, if_pos z] at e
        omega
      · omega
  · rw [n1] at ha
    have ea : a = hN h00 := by
      show a = 6
      omega
    subst ea
    unfold SC
    rw [at6 (hN h00) (Nat.le_refl 6)]
    refine ⟨?_, ?_, fun f => ?_, fun f => ?_, ?_, fun j => ?_, ?_⟩
    · rw [hK_nw, hK_nw, va_up_self, va_up_self]
    · show va_up (hL b) (hN b) 0 (hN b) = va_up (hL h00) (hN h00) 0 (hN h00)
      rw [va_up_self, va_up_self]
    · rw [hI_nw, hI_nw]
      exact (z2 f).1
    · rw [hR_nw, hR_nw, (z2 f).2]
      rfl
    · rw [hA_nw, hA_nw]
      exact funext fun j => (z3 j).1
    · rw [hQ_nw, hQ_nw, (z3 j).2.1]
      rfl
    · rw [hW_nw, hW_nw]
      exact funext fun j => (z3 j).2.2
theorem hs_new (l : Launch) (G : Gl) {b : Hp} (gb : Good b) : ∃ (b' : Hp) (P' : Nat → Prop) (S' : MM), MRw l G yX11_init (.code yX11_init cX11_init 1 none) 12 30 600 [.ref (hN b)] (nw b 9 0) (.inl (none, b')) ∧ TG mmT S' ∧ HS b' (hN b) P' S' 1 1 0 ∧ FRM b b' (fun _ => False) P' := by
  have g0 := gd_nw (k := 9) (n := 0) good_00 (by decide) (by decide)
  have gn := gd_nw (k := 9) (n := 0) gb (by decide) (by decide)
  obtain ⟨s', A, D, e, Y, eA, M, hY, hV, TL, lr, KOs, ST⟩ := c_house l G (h := nw h00 9 0) g0 (H := 6) (by rw [hK_nw]; exact va_up_self _ _ _)
  have E := e1_Emb gb
  have C' : CJ A s' (mkS mmT Y) 1 1 0 := by
    have g := mkS_g mmT Y
    refine ⟨hN s', D, fun _ => e, [], [], fun _ => 0, fun _ _ => 0, fun _ => 0, fun _ => 0, fun _ => 0, TLD_S g (TL _ (Nat.le_refl _)), TNR_S g mmT_TNR, KOs _ (fun i _ => mkS_v mmT Y i), NM_S g ⟨1, Nat.le_refl 1, by rfl, fun e he => ⟨0, Nat.one_pos, ?_⟩⟩, fun i _ => ?_, by decide, Y, LE_c g hY, hV, fun i _ => mkS_v mmT Y i⟩
    · have : e = 0 := by omega
      rw [this]
      rfl
    · rw [g 20 (by decide) (by decide)]
      rfl
  have M2 := fr_mr (b := nw b 9 0) (σ := e1S b) G M E g0 ST.1 ST.2.1.1 (vl_c (show 6 < hN (nw h00 9 0) by rw [hN_nw]; decide) (fun v hv => by cases hv))
  have e6 : e1S b 6 = hN b := if_neg (by decide)
  have e1 : ([Value.ref 6] : List Value).map (upv (e1S b)) = [.ref (hN b)] := by
    show [Value.ref (e1S b 6)] = _
    rw [e6]
  rw [e1] at M2
  have F := jn_FRM (P := fun x => ∃ a, 6 ≤ a ∧ a < hN (nw h00 9 0) ∧ e1S b a = x) E g0 ST.1 gn ST.2.1.1 (fun x => Iff.rfl)
  refine ⟨_, _, mkS mmT Y, M2, mkS_g mmT Y, ⟨s', _, A, jn_Emb E g0 gn ST.2.1.1, C', ?_, fun x => Iff.rfl⟩, F.1, ?_, fun x h => h.elim, fun x hx => ?_, fun x hx _ => ?_⟩
  · rw [eA, sg_o (show 6 < hN (nw h00 9 0) by rw [hN_nw]; decide)]
    exact e6
  · exact Nat.le_trans (by rw [hN_nw]; omega) F.2.1
  · right
    rcases F.2.2.2.1 x hx with ⟨a, h6, ha, ea⟩ | h
    · rw [← ea]
      unfold e1S
      rw [if_neg (by omega)]
      exact Nat.le_refl _
    · rw [hN_nw] at h
      omega
  · have := F.2.2.2.2 x (by rw [hN_nw]; omega) (fun ⟨a, h6, ha, ea⟩ => by
      unfold e1S at ea
      rw [if_neg (by omega)] at ea
      omega)
    refine SM_t ⟨?_, ?_, fun f => by rw [hI_nw], fun f => by rw [hR_nw], by rw [hA_nw], by rw [hQ_nw], by rw [hW_nw]⟩ this
    · rw [hK_nw, va_up_ne _ _ (by omega)]
    · show va_up (hL b) (hN b) 0 x = _
      rw [va_up_ne _ _ (by omega)]
/-- the law's rows: dress, words, holds, asks, told, one behind the other from a on -/
def LA (b : Hp) (a : Nat) (P Q : Nat → Prop) (fd fw fh fa ft : Nat → Int32) : Prop := Good b ∧ (∀ i, i < 5 → hK b (a + i) = 100 ∧ ¬ P (a + i) ∧ ¬ Q (a + i)) ∧ (hL b a = 10 ∧ hL b (a + 1) = 10 ∧ hL b (a + 2) = 10 ∧ hL b (a + 3) = 6 ∧ hL b (a + 4) = 60) ∧ (hA b a = fd ∧ hA b (a + 1) = fw ∧ hA b (a + 2) = fh ∧ hA b (a + 3) = fa ∧ hA b (a + 4) = ft) ∧ ∀ x, P x → ¬ Q x
/-- the whole world of the law -/
def WD (b : Hp) (Ho Hq a : Nat) (So : MM) (ko no Ro : Nat) (Sq : MM) (kq nq Rq : Nat) (fd fw fh fa ft : Nat → Int32) : Prop := ∃ P Q : Nat → Prop, HS b Ho P So ko no Ro ∧ HS b Hq Q Sq kq nq Rq ∧ LA b a P Q fd fw fh fa ft
theorem LA_a {b : Hp} {a : Nat} {P Q : Nat → Prop} {fd fw fh fa ft : Nat → Int32} (L : LA b a P Q fd fw fh fa ft) {i : Nat} (hi : i < 5) : a + i < hN b := (kind_in L.1 (L.2.1 i hi).1 (by decide)).2
theorem LA_f {b b' : Hp} {a : Nat} {P Q P' Q' : Nat → Prop} {fd fw fh fa ft : Nat → Int32} (L : LA b a P Q fd fw fh fa ft) (g' : Good b') (hP : ∀ i, i < 5 → ¬ P' (a + i) ∧ ¬ Q' (a + i)) (hs : ∀ i, i < 5 → SM b b' (a + i)) (hd : ∀ x, P' x → ¬ Q' x) : LA b' a P' Q' fd fw fh fa ft := by
  obtain ⟨g, k, ⟨l0, l1, l2, l3, l4⟩, ⟨d0, d1, d2, d3, d4⟩, dj⟩ := L
  have s0 := hs 0 (by decide)
  have s1 := hs 1 (by decide)
  have s2 := hs 2 (by decide)
  have s3 := hs 3 (by decide)
  have s4 := hs 4 (by decide)
  exact ⟨g', fun i hi => ⟨(hs i hi).1.trans (k i hi).1, (hP i hi).1, (hP i hi).2⟩, ⟨s0.2.1.trans l0, s1.2.1.trans l1, s2.2.1.trans l2, s3.2.1.trans l3, s4.2.1.trans l4⟩, ⟨s0.2.2.2.2.1.trans d0, s1.2.2.2.2.1.trans d1, s2.2.2.2.2.1.trans d2, s3.2.2.2.2.1.trans d3, s4.2.2.2.2.1.trans d4⟩, hd⟩
theorem wd_o {b b' : Hp} {Ho Hq a : Nat} {S' : MM} {k' n' R' : Nat} {Sq : MM} {kq nq Rq : Nat} {fd fw fh fa ft : Nat → Int32} {P P' Q : Nat → Prop} (W2 : HS b Hq Q Sq kq nq Rq) (L : LA b a P Q fd fw fh fa ft) (W1 : HS b' Ho P' S' k' n' R') (F : FRM b b' P P') : WD b' Ho Hq a S' k' n' R' Sq kq nq Rq fd fw fh fa ft := by
  have hq : ∀ x, Q x → x < hN b ∧ ¬ P x := fun x hx => ⟨(HS_lt W2 hx).2, fun h => L.2.2.2.2 x h hx⟩
  refine ⟨P', Q, W1, hs_fr W2 F.2.1 (fun x hx => F.2.2.2.2 x (hq x hx).1 (hq x hx).2), LA_f L F.1 (fun i hi => ⟨fun h => ?_, (L.2.1 i hi).2.2⟩) (fun i hi => F.2.2.2.2 _ (LA_a L hi) (L.2.1 i hi).2.1) (fun x hx hx2 => ?_)⟩
  · rcases F.2.2.2.1 _ h with z | z
    · exact (L.2.1 i hi).2.1 z
    · exact absurd (LA_a L hi) (Nat.not_lt.mpr z)
  · rcases F.2.2.2.1 x hx with z | z
    · exact (hq x hx2).2 z
    · exact absurd (hq x hx2).1 (Nat.not_lt.mpr z)
theorem wd_q {b b' : Hp} {Ho Hq a : Nat} {S' : MM} {k' n' R' : Nat} {So : MM} {ko no Ro : Nat} {fd fw fh fa ft : Nat → Int32} {P Q Q' : Nat → Prop} (W1 : HS b Ho P So ko no Ro) (L : LA b a P Q fd fw fh fa ft) (W2 : HS b' Hq Q' S' k' n' R') (F : FRM b b' Q Q') : WD b' Ho Hq a So ko no Ro S' k' n' R' fd fw fh fa ft := by
  have hq : ∀ x, P x → x < hN b ∧ ¬ Q x := fun x hx => ⟨(HS_lt W1 hx).2, fun h => L.2.2.2.2 x hx h⟩
  refine ⟨P, Q', hs_fr W1 F.2.1 (fun x hx => F.2.2.2.2 x (hq x hx).1 (hq x hx).2), W2, LA_f L F.1 (fun i hi => ⟨(L.2.1 i hi).2.1, fun h => ?_⟩) (fun i hi => F.2.2.2.2 _ (LA_a L hi) (L.2.1 i hi).2.2) (fun x hx hx2 => ?_)⟩
  · rcases F.2.2.2.1 _ h with z | z
    · exact (L.2.1 i hi).2.2 z
    · exact absurd (LA_a L hi) (Nat.not_lt.mpr z)
  · rcases F.2.2.2.1 x hx2 with z | z
    · exact (hq x hx).2 z
    · exact absurd (hq x hx).1 (Nat.not_lt.mpr z)
/-- one of the law's rows is written -/
theorem sA_SM {b : Hp} {a j x : Nat} {v : Int32} (h : x ≠ a) : SM b (sA b a j v) x := ⟨rfl, rfl, fun _ => rfl, fun _ => rfl, va_up_ne _ _ h, rfl, rfl⟩
theorem wd_A {b : Hp} {Ho Hq a i j : Nat} {v : Int32} {So : MM} {ko no Ro : Nat} {Sq : MM} {kq nq Rq : Nat} {fd fw fh fa ft : Nat → Int32} (hi : i < 5) (W : WD b Ho Hq a So ko no Ro Sq kq nq Rq fd fw fh fa ft) :
    WD (sA b (a + i) j v) Ho Hq a So ko no Ro Sq kq nq Rq (if i = 0 then va_up fd j v else fd) (if i = 1 then va_up fw j v else fw) (if i = 2 then va_up fh j v else fh) (if i = 3 then va_up fa j v else fa) (if i = 4 then va_up ft j v else ft) := by
  obtain ⟨P, Q, W1, W2, L⟩ := W
  have la := LA_a L hi
  obtain ⟨g, k, l, ⟨d0, d1, d2, d3, d4⟩, dj⟩ := L
  refine ⟨P, Q, hs_fr W1 (Nat.le_refl _) (fun x hx => sA_SM (fun e => (k i hi).2.1 (e ▸ hx))), hs_fr W2 (Nat.le_refl _) (fun x hx => sA_SM (fun e => (k i hi).2.2 (e ▸ hx))), gd_sA g la, k, l, ?_, dj⟩
  have at' : hA (sA b (a + i) j v) (a + i) = va_up (hA b (a + i)) j v := va_up_self _ _ _
  have ne : ∀ i', i' ≠ i → hA (sA b (a + i) j v) (a + i') = hA b (a + i') := fun i' h => va_up_ne _ _ (by omega)
  refine ⟨?_, ?_, ?_, ?_, ?_⟩
  · by_cases q : i = 0
    · subst q
      rw [if_pos rfl, ← d0]
      exact at'
    · rw [if_neg q, ← d0]
      exact ne 0 (fun z => q z.symm)
  · by_cases q : i = 1
    · subst q
      rw [if_pos rfl, ← d1]
      exact at'
    · rw [if_neg q, ← d1]
      exact ne 1 (fun z => q z.symm)
  · by_cases q : i = 2
    · subst q
      rw [if_pos rfl, ← d2]
      exact at'
    · rw [if_neg q, ← d2]
      exact ne 2 (fun z => q z.symm)
  · by_cases q : i = 3
    · subst q
      rw [if_pos rfl, ← d3]
      exact at'
    · rw [if_neg q, ← d3]
      exact ne 3 (fun z => q z.symm)
  · by_cases q : i = 4
    · subst q
      rw [if_pos rfl, ← d4]
      exact at'
    · rw [if_neg q, ← d4]
      exact ne 4 (fun z => q z.symm)
