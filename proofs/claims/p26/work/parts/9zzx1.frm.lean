/-! ===== the frame: a small heap in a big one; what a call does to it leaves all else as it was ===== -/
/-- the cell a of the small heap, at its place in the big one -/
def SC (σ : Nat → Nat) (s b : Hp) (a : Nat) : Prop := hK b (σ a) = hK s a ∧ hL b (σ a) = hL s a ∧ (∀ f, hI b f (σ a) = hI s f a) ∧ (∀ f, hR b f (σ a) = (hR s f a).map σ) ∧ hA b (σ a) = hA s a ∧ (∀ j, hQ b (σ a) j = (hQ s a j).map σ) ∧ hW b (σ a) = hW s a
def Emb (σ : Nat → Nat) (s b : Hp) : Prop := (∀ i, i < 6 → σ i = i) ∧ (∀ a, 6 ≤ a → a < hN s → 6 ≤ σ a ∧ σ a < hN b) ∧ inj (hN s) σ ∧ ∀ a, 6 ≤ a → a < hN s → SC σ s b a
/-- the same cell -/
def SM (b b' : Hp) (x : Nat) : Prop := hK b' x = hK b x ∧ hL b' x = hL b x ∧ (∀ f, hI b' f x = hI b f x) ∧ (∀ f, hR b' f x = hR b f x) ∧ hA b' x = hA b x ∧ hQ b' x = hQ b x ∧ hW b' x = hW b x
/-- no cell of the small heap -/
def NIm (σ : Nat → Nat) (s : Hp) (x : Nat) : Prop := ∀ a, 6 ≤ a → a < hN s → σ a ≠ x
def sg' (σ : Nat → Nat) (ns nb : Nat) (a : Nat) : Nat := if a < ns then σ a else nb + (a - ns)
def iv (σ : Nat → Nat) (ns nb ns' : Nat) (x : Nat) : Option Nat := if nb ≤ x then (if x - nb + ns < ns' then some (x - nb + ns) else none) else (fi ns σ x).bind (fun a => if 6 ≤ a then some a else none)
/-- the big heap, when the small one has become s' -/
def jn (σ : Nat → Nat) (s s' b : Hp) : Hp := (hN b + (hN s' - hN s),
  fun x => match iv σ (hN s) (hN b) (hN s') x with | some a => hK s' a | none => hK b x,
  fun x => match iv σ (hN s) (hN b) (hN s') x with | some a => hL s' a | none => hL b x,
  fun f x => match iv σ (hN s) (hN b) (hN s') x with | some a => hI s' f a | none => hI b f x,
  fun f x => match iv σ (hN s) (hN b) (hN s') x with | some a => (hR s' f a).map (sg' σ (hN s) (hN b)) | none => hR b f x,
  fun x => match iv σ (hN s) (hN b) (hN s') x with | some a => hA s' a | none => hA b x,
  fun x => match iv σ (hN s) (hN b) (hN s') x with | some a => (fun j => (hQ s' a j).map (sg' σ (hN s) (hN b))) | none => hQ b x,
  fun x => match iv σ (hN s) (hN b) (hN s') x with | some a => hW s' a | none => hW b x)
theorem sg_o {σ : Nat → Nat} {ns nb a : Nat} (h : a < ns) : sg' σ ns nb a = σ a := if_pos h
theorem sg_n {σ : Nat → Nat} {ns nb a : Nat} (h : ns ≤ a) : sg' σ ns nb a = nb + (a - ns) := if_neg (Nat.not_lt.mpr h)
theorem iv_at {σ : Nat → Nat} {s b : Hp} {ns' : Nat} (E : Emb σ s b) {a : Nat} (h6 : 6 ≤ a) (ha : a < ns') : iv σ (hN s) (hN b) ns' (sg' σ (hN s) (hN b) a) = some a := by
  unfold iv
  by_cases q : a < hN s
  · have := (E.2.1 a h6 q).2
    rw [sg_o q, if_neg (by omega), fi_at E.2.2.1 q]
    exact if_pos h6
  · rw [sg_n (by omega), if_pos (by omega), if_pos (by omega)]
    congr 1
    omega
theorem iv_no {σ : Nat → Nat} {s b : Hp} {ns' : Nat} (hn : hN s ≤ ns') {x a : Nat} (h : iv σ (hN s) (hN b) ns' x = some a) (g6 : 6 ≤ hN s) : 6 ≤ a ∧ a < ns' ∧ sg' σ (hN s) (hN b) a = x := by
  unfold iv at h
  by_cases q : hN b ≤ x
  · rw [if_pos q] at h
    by_cases z : x - hN b + hN s < ns'
    · rw [if_pos z] at h
      cases h
      exact ⟨by omega, z, by rw [sg_n (by omega)]; omega⟩
    · rw [if_neg z] at h
      cases h
  · rw [if_neg q] at h
    cases hf : fi (hN s) σ x with
    | none => rw [hf] at h; cases h
    | some c =>
      rw [hf] at h
      have h : (if 6 ≤ c then some c else none) = some a := h
      by_cases z : 6 ≤ c
      · rw [if_pos z] at h
        cases h
        obtain ⟨u, v⟩ := fi_some hf
        exact ⟨z, by omega, by rw [sg_o u]; exact v⟩
      · rw [if_neg z] at h
        cases h
theorem iv_none {σ : Nat → Nat} {s b : Hp} {ns' : Nat} {x : Nat} (hx : x < hN b) (h : NIm σ s x) : iv σ (hN s) (hN b) ns' x = none := by
  unfold iv
  rw [if_neg (by omega)]
  cases hf : fi (hN s) σ x with
  | none => rfl
  | some c =>
    obtain ⟨u, v⟩ := fi_some hf
    show (if 6 ≤ c then some c else none) = none
    by_cases z : 6 ≤ c
    · exact absurd v (h c z u)
    · exact if_neg z
theorem iv_hi {σ : Nat → Nat} {s b : Hp} {ns' : Nat} (hn : hN s ≤ ns') {x : Nat} (hx : hN b + (ns' - hN s) ≤ x) : iv σ (hN s) (hN b) ns' x = none := by
  unfold iv
  rw [if_pos (by omega), if_neg (by omega)]
theorem jn_SM {σ : Nat → Nat} {s s' b : Hp} {x : Nat} (h : iv σ (hN s) (hN b) (hN s') x = none) : SM b (jn σ s s' b) x := by
  refine ⟨?_, ?_, fun f => ?_, fun f => ?_, ?_, ?_, ?_⟩
  · show (match iv σ (hN s) (hN b) (hN s') x with | some a => hK s' a | none => hK b x) = _
    rw [h]
  · show (match iv σ (hN s) (hN b) (hN s') x with | some a => hL s' a | none => hL b x) = _
    rw [h]
  · show (match iv σ (hN s) (hN b) (hN s') x with | some a => hI s' f a | none => hI b f x) = _
    rw [h]
  · show (match iv σ (hN s) (hN b) (hN s') x with | some a => (hR s' f a).map (sg' σ (hN s) (hN b)) | none => hR b f x) = _
    rw [h]
  · show (match iv σ (hN s) (hN b) (hN s') x with | some a => hA s' a | none => hA b x) = _
    rw [h]
  · show (match iv σ (hN s) (hN b) (hN s') x with | some a => (fun j => (hQ s' a j).map (sg' σ (hN s) (hN b))) | none => hQ b x) = _
    rw [h]
  · show (match iv σ (hN s) (hN b) (hN s') x with | some a => hW s' a | none => hW b x) = _
    rw [h]
theorem jn_SC {σ : Nat → Nat} {s s' b : Hp} {a : Nat} (h : iv σ (hN s) (hN b) (hN s') (sg' σ (hN s) (hN b) a) = some a) : SC (sg' σ (hN s) (hN b)) s' (jn σ s s' b) a := by
  obtain ⟨x, ex⟩ : ∃ x, x = sg' σ (hN s) (hN b) a := ⟨_, rfl⟩
  unfold SC
  rw [← ex] at h ⊢
  refine ⟨?_, ?_, fun f => ?_, fun f => ?_, ?_, fun j => ?_, ?_⟩
  · show (match iv σ (hN s) (hN b) (hN s') x with | some a => hK s' a | none => hK b x) = _
    rw [h]
  · show (match iv σ (hN s) (hN b) (hN s') x with | some a => hL s' a | none => hL b x) = _
    rw [h]
  · show (match iv σ (hN s) (hN b) (hN s') x with | some a => hI s' f a | none => hI b f x) = _
    rw [h]
  · show (match iv σ (hN s) (hN b) (hN s') x with | some a => (hR s' f a).map (sg' σ (hN s) (hN b)) | none => hR b f x) = _
    rw [h]
  · show (match iv σ (hN s) (hN b) (hN s') x with | some a => hA s' a | none => hA b x) = _
    rw [h]
  · show (match iv σ (hN s) (hN b) (hN s') x with | some a => (fun j => (hQ s' a j).map (sg' σ (hN s) (hN b))) | none => hQ b x) j = _
    rw [h]
  · show (match iv σ (hN s) (hN b) (hN s') x with | some a => hW s' a | none => hW b x) = _
    rw [h]
theorem sg_lt {σ : Nat → Nat} {s b : Hp} {n' : Nat} (E : Emb σ s b) (gb : 6 ≤ hN b) (hn : hN s ≤ n') {a : Nat} (ha : a < n') : sg' σ (hN s) (hN b) a < hN b + (n' - hN s) := by
  by_cases q : a < hN s
  · rw [sg_o q]
    by_cases z : a < 6
    · rw [E.1 a z]
      omega
    · have := (E.2.1 a (by omega) q).2
      omega
  · rw [sg_n (by omega)]
    omega
theorem sg_inj {σ : Nat → Nat} {s b : Hp} {n' : Nat} (E : Emb σ s b) (gb : 6 ≤ hN b) : inj n' (sg' σ (hN s) (hN b)) := by
  have lt : ∀ a, a < hN s → σ a < hN b := fun a q => by
    by_cases z : a < 6
    · rw [E.1 a z]
      omega
    · exact (E.2.1 a (by omega) q).2
  intro x hx y hy e
  by_cases q : x < hN s
  · have := lt x q
    by_cases z : y < hN s
    · rw [sg_o q, sg_o z] at e
      exact E.2.2.1 x q y z e
    · rw [sg_o q, sg_n (by omega)] at e
      omega
  · by_cases z : y < hN s
    · have := lt y z
      rw [sg_n (by omega), sg_o z] at e
      omega
    · rw [sg_n (by omega), sg_n (by omega)] at e
      omega
theorem jn_Emb {σ : Nat → Nat} {s s' b : Hp} (E : Emb σ s b) (gs : Good s) (gb : Good b) (hn : hN s ≤ hN s') : Emb (sg' σ (hN s) (hN b)) s' (jn σ s s' b) := by
  refine ⟨fun i hi => ?_, fun a h6 ha => ⟨?_, sg_lt E gb.1 hn ha⟩, sg_inj E gb.1, fun a h6 ha => jn_SC (iv_at E h6 ha)⟩
  · have := gs.1
    rw [sg_o (by omega)]
    exact E.1 i hi
  · by_cases q : a < hN s
    · rw [sg_o q]
      exact (E.2.1 a h6 q).1
    · have := gb.1
      rw [sg_n (by omega)]
      omega
theorem jn_good {σ : Nat → Nat} {s s' b : Hp} (E : Emb σ s b) (gs : Good s) (gs' : Good s') (gb : Good b) (hn : hN s ≤ hN s') : Good (jn σ s s' b) := by
  have hN' : hN (jn σ s s' b) = hN b + (hN s' - hN s) := rfl
  have b6 := gb.1
  refine ⟨by rw [hN']; omega, fun a ha => ?_, fun a ha => ?_, fun f a c hc => ?_, fun a j c hc => ?_, fun a h6 ha => ?_, fun a => ?_⟩
  · cases hq : iv σ (hN s) (hN b) (hN s') a with
    | none =>
      rw [(jn_SM hq).1]
      exact gb.2.1 a ha
    | some c =>
      obtain ⟨u1, u2, u3⟩ := iv_no hn hq gs.1
      exfalso
      by_cases q : c < hN s
      · rw [sg_o q] at u3
        have := (E.2.1 c u1 q).1
        omega
      · rw [sg_n (by omega)] at u3
        omega
  · rw [hN'] at ha
    obtain ⟨m1, m2, m3, m4, m5, m6, m7⟩ := jn_SM (iv_hi (σ := σ) (s := s) (b := b) hn ha)
    obtain ⟨y1, y2, y3⟩ := gb.2.2.1 a (by omega)
    refine ⟨m1.trans y1, fun f => ⟨(m3 f).trans (y2 f).1, (m4 f).trans (y2 f).2⟩, fun j => ⟨?_, ?_, ?_⟩⟩
    · rw [m5]
      exact (y3 j).1
    · rw [m6]
      exact (y3 j).2.1
    · rw [m7]
      exact (y3 j).2.2
  · rw [hN']
    cases hq : iv σ (hN s) (hN b) (hN s') a with
    | none =>
      rw [(jn_SM hq).2.2.2.1 f] at hc
      have := gb.2.2.2.1 f a c hc
      omega
    | some d =>
      obtain ⟨u1, u2, u3⟩ := iv_no hn hq gs.1
      have e := (jn_SC (σ := σ) (s := s) (s' := s') (b := b) (a := d) (by rw [u3]; exact hq)).2.2.2.1 f
      rw [u3, hc] at e
      cases hr : hR s' f d with
      | none => rw [hr] at e; cases e
      | some w =>
        rw [hr] at e
        cases e
        exact sg_lt E b6 hn (gs'.2.2.2.1 f d w hr)
  · rw [hN']
    cases hq : iv σ (hN s) (hN b) (hN s') a with
    | none =>
      rw [(jn_SM hq).2.2.2.2.2.1] at hc
      have := gb.2.2.2.2.1 a j c hc
      omega
    | some d =>
      obtain ⟨u1, u2, u3⟩ := iv_no hn hq gs.1
      have e := (jn_SC (σ := σ) (s := s) (s' := s') (b := b) (a := d) (by rw [u3]; exact hq)).2.2.2.2.2.1 j
      rw [u3, hc] at e
      cases hr : hQ s' d j with
      | none => rw [hr] at e; cases e
      | some w =>
        rw [hr] at e
        cases e
        exact sg_lt E b6 hn (gs'.2.2.2.2.1 d j w hr)
  · rw [hN'] at ha
    cases hq : iv σ (hN s) (hN b) (hN s') a with
    | none =>
      rw [(jn_SM hq).1]
      refine gb.2.2.2.2.2.1 a h6 (Nat.lt_of_not_le fun z => ?_)
      unfold iv at hq
      rw [if_pos z, if_pos (by omega)] at hq
      cases hq
    | some d =>
      obtain ⟨u1, u2, u3⟩ := iv_no hn hq gs.1
      have e := (jn_SC (σ := σ) (s := s) (s' := s') (b := b) (a := d) (by rw [u3]; exact hq)).1
      rw [u3] at e
      rw [e]
      exact gs'.2.2.2.2.2.1 d u1 u2
  · cases hq : iv σ (hN s) (hN b) (hN s') a with
    | none =>
      rw [(jn_SM hq).2.1]
      exact gb.2.2.2.2.2.2 a
    | some d =>
      obtain ⟨u1, u2, u3⟩ := iv_no hn hq gs.1
      have e := (jn_SC (σ := σ) (s := s) (s' := s') (b := b) (a := d) (by rw [u3]; exact hq)).2.1
      rw [u3] at e
      rw [e]
      exact gs'.2.2.2.2.2.2 d
/-- the cells by what is told of them -/
theorem ce_SC {G : Gf} {ρ σ : Nat → Nat} {s b : Hp} {a : Nat} (h : SC σ s b a) : ce G ρ b (σ a) = ce G (fun i => ρ (σ i)) s a := by
  obtain ⟨h1, h2, h3, h4, h5, h6, h7⟩ := h
  have e1 : fld ρ b (hK s a) (σ a) = fld (fun i => ρ (σ i)) s (hK s a) a := funext fun k => by
    unfold fld
    rw [h3, h4, Option.map_map]
    rfl
  have e2 : (fun j => (hQ b (σ a) j).map ρ) = fun j => (hQ s a j).map (fun i => ρ (σ i)) := funext fun j => by
    rw [h6, Option.map_map]
    rfl
  unfold ce
  rw [h1, h2, h5, h7, e1, e2]
theorem ce_SM {G : Gf} {ρ : Nat → Nat} {b b' : Hp} {x : Nat} (h : SM b b' x) : ce G ρ b' x = ce G ρ b x := by
  obtain ⟨h1, h2, h3, h4, h5, h6, h7⟩ := h
  have e1 : fld ρ b' (hK b x) x = fld ρ b (hK b x) x := funext fun k => by
    unfold fld
    rw [h3, h4]
  unfold ce
  rw [h1, h2, h5, h7, h6, e1]
/-- what a call on the small heap may change -/
def aS (ρ σ : Nat → Nat) (s : Hp) (sz : Nat) : Nat → Prop := fun q => (∃ a, 6 ≤ a ∧ a < hN s ∧ q = ρ (σ a)) ∨ sz ≤ q
def gS9 (G : Gf) (A : Nat → Prop) : Gf := (gD G, gC G, A, gF G, gL G, gX G)
theorem ce_g {G : Gf} {A : Nat → Prop} {ρ : Nat → Nat} {h : Hp} {a : Nat} : ce (gS9 G A) ρ h a = ce G ρ h a := rfl
theorem wo_at {G : Gf} {ρ : Nat → Nat} {h : Hp} {H : Heap} (W : Wo G ρ h H) {a : Nat} (h6 : 6 ≤ a) (hn : a < hN h) : va_at (gD G) mCl (ρ a, ce G ρ h a) H ∧ gA G (ρ a) :=
  ⟨W.1 (a - 6) _ (wsF_get G ρ h h6 hn), W.2.1.2 (a - 6) _ (wsF_get G ρ h h6 hn)⟩
theorem wo_inj {G : Gf} {ρ : Nat → Nat} {h : Hp} {H : Heap} (W : Wo G ρ h H) {a c : Nat} (h6 : 6 ≤ a) (hn : a < hN h) (k6 : 6 ≤ c) (kn : c < hN h) (e : ρ a = ρ c) : a = c := by
  have := W.2.1.1 (a - 6) (c - 6) _ _ (wsF_get G ρ h h6 hn) (wsF_get G ρ h k6 kn) e
  omega
theorem wo_of {G : Gf} {ρ : Nat → Nat} {h : Hp} {H : Heap} (g : Good h) (h0 : ∀ i, i < 6 → ρ i = gF G i) (h1 : ∀ a, 6 ≤ a → a < hN h → va_at (gD G) mCl (ρ a, ce G ρ h a) H ∧ gA G (ρ a)) (h2 : ∀ a c, 6 ≤ a → a < hN h → 6 ≤ c → c < hN h → ρ a = ρ c → a = c) : Wo G ρ h H := by
  refine ⟨fun k q hk => ?_, ⟨fun i j p q hi hj e => ?_, fun k q hk => ?_⟩, g, h0⟩
  · obtain ⟨u, e⟩ := wsF_at hk
    rw [e]
    exact (h1 (k + 6) (by omega) u).1
  · obtain ⟨u, e1⟩ := wsF_at hi
    obtain ⟨v, e2⟩ := wsF_at hj
    rw [e1, e2] at e
    have := h2 (i + 6) (j + 6) (by omega) u (by omega) v e
    omega
  · obtain ⟨u, e⟩ := wsF_at hk
    rw [e]
    exact (h1 (k + 6) (by omega) u).2
theorem wo_small {G : Gf} {ρ σ : Nat → Nat} {s b : Hp} {H : Heap} (W : Wo G ρ b H) (E : Emb σ s b) (gs : Good s) (sz : Nat) : Wo (gS9 G (aS ρ σ s sz)) (fun i => ρ (σ i)) s H := by
  refine wo_of gs (fun i hi => ?_) (fun a h6 ha => ⟨?_, Or.inl ⟨a, h6, ha, rfl⟩⟩) (fun a c h6 ha k6 ka e => ?_)
  · show ρ (σ i) = _
    rw [E.1 i hi]
    exact W.2.2.2 i hi
  · obtain ⟨u, v⟩ := E.2.1 a h6 ha
    have := (wo_at W u v).1
    rw [ce_SC (E.2.2.2 a h6 ha)] at this
    exact this
  · obtain ⟨u, v⟩ := E.2.1 a h6 ha
    obtain ⟨u', v'⟩ := E.2.1 c k6 ka
    exact E.2.2.1 a ha c ka (wo_inj W u v u' v' e)
def rh' (ρ ρs : Nat → Nat) (ns nb : Nat) (x : Nat) : Nat := if x < nb then ρ x else ρs (x - nb + ns)
theorem wo_big {G : Gf} {ρ ρs σ : Nat → Nat} {s s' b : Hp} {H H1 : Heap} (W : Wo G ρ b H) (E : Emb σ s b) (gs : Good s) (gs' : Good s') (hn : hN s ≤ hN s') (hsz : ∀ q : Nat, H.size ≤ q → gA G q) (W1 : Wo (gS9 G (aS ρ σ s H.size)) ρs s' H1) (hρ : ∀ a, a < hN s → ρs a = ρ (σ a)) (hk : ∀ q : Nat, q < H.size → ¬ aS ρ σ s H.size q → H1[q]? = H[q]?) :
    Wo G (rh' ρ ρs (hN s) (hN b)) (jn σ s s' b) H1 := by
  have gb := W.2.2.1
  have b6 := gb.1
  have ro : ∀ x, x < hN b → rh' ρ ρs (hN s) (hN b) x = ρ x := fun x hx => if_pos hx
  have rs : ∀ a, a < hN s' → rh' ρ ρs (hN s) (hN b) (sg' σ (hN s) (hN b) a) = ρs a := fun a ha => by
    by_cases q : a < hN s
    · have : σ a < hN b := by
        by_cases z : a < 6
        · rw [E.1 a z]
          omega
        · exact (E.2.1 a (by omega) q).2
      rw [sg_o q, ro _ this, hρ a q]
    · rw [sg_n (by omega)]
      unfold rh'
      rw [if_neg (by omega)]
      congr 1
      omega
  have inm : ∀ a, 6 ≤ a → a < hN s' → gA G (ρs a) := fun a h6 ha => by
    have h : aS ρ σ s H.size (ρs a) := (wo_at W1 h6 ha).2
    rcases h with ⟨c, c6, cs, ec⟩ | h
    · rw [ec]
      obtain ⟨u, v⟩ := E.2.1 c c6 cs
      exact (wo_at W u v).2
    · exact hsz _ h
  have nin : ∀ x, 6 ≤ x → x < hN b → NIm σ s x → ¬ aS ρ σ s H.size (ρ x) := fun x h6 hx hni h => by
    rcases h with ⟨c, c6, cs, ec⟩ | h
    · obtain ⟨u, v⟩ := E.2.1 c c6 cs
      exact hni c c6 cs (wo_inj W u v h6 hx ec.symm)
    · have := (wo_at W h6 hx).1.lt
      exact absurd h (Nat.not_le.mpr this)
  have nim : ∀ x, x < hN b → iv σ (hN s) (hN b) (hN s') x = none → NIm σ s x := fun x hx h a h6 ha e => by
    have := iv_at (ns' := hN s') E h6 (Nat.lt_of_lt_of_le ha hn)
    rw [sg_o ha, e, h] at this
    cases this
  have lo : ∀ x, x < hN b + (hN s' - hN s) → iv σ (hN s) (hN b) (hN s') x = none → x < hN b := fun x hx h => by
    refine Nat.lt_of_not_le fun z => ?_
    unfold iv at h
    rw [if_pos z, if_pos (by omega)] at h
    cases h
  refine wo_of (jn_good E gs gs' gb hn) (fun i hi => ?_) (fun x h6 hx => ?_) (fun x y h6 hx k6 hy e => ?_)
  · rw [ro i (by omega)]
    exact W.2.2.2 i hi
  · have hx : x < hN b + (hN s' - hN s) := hx
    cases hq : iv σ (hN s) (hN b) (hN s') x with
    | none =>
      have hb := lo x hx hq
      have hni := nim x hb hq
      rw [ro x hb, ce_SM (jn_SM hq), ce_ext (fun a ha => ro a ha) gb]
      obtain ⟨u, v⟩ := wo_at W h6 hb
      exact ⟨u.kept (hk _ u.lt (nin x h6 hb hni)), v⟩
    | some a =>
      obtain ⟨u1, u2, u3⟩ := iv_no hn hq gs.1
      rw [← u3, rs a u2, ce_SC (jn_SC (by rw [u3]; exact hq)), ce_ext (ρ := ρs) (fun c hc => rs c hc) gs']
      exact ⟨(wo_at W1 u1 u2).1, inm a u1 u2⟩
  · have hx : x < hN b + (hN s' - hN s) := hx
    have hy : y < hN b + (hN s' - hN s) := hy
    cases hq : iv σ (hN s) (hN b) (hN s') x with
    | none =>
      have hb := lo x hx hq
      have hni := nim x hb hq
      rw [ro x hb] at e
      cases hz : iv σ (hN s) (hN b) (hN s') y with
      | none =>
        have hc := lo y hy hz
        rw [ro y hc] at e
        exact wo_inj W h6 hb k6 hc e
      | some c =>
        obtain ⟨u1, u2, u3⟩ := iv_no hn hz gs.1
        rw [← u3, rs c u2] at e
        exact absurd (show aS ρ σ s H.size (ρ x) by rw [e]; exact (wo_at W1 u1 u2).2) (nin x h6 hb hni)
    | some a =>
      obtain ⟨u1, u2, u3⟩ := iv_no hn hq gs.1
      rw [← u3, rs a u2] at e
      cases hz : iv σ (hN s) (hN b) (hN s') y with
      | none =>
        have hc := lo y hy hz
        rw [ro y hc] at e
        exact absurd (show aS ρ σ s H.size (ρ y) by rw [← e]; exact (wo_at W1 u1 u2).2) (nin y k6 hc (nim y hc hz))
      | some c =>
        obtain ⟨v1, v2, v3⟩ := iv_no hn hz gs.1
        rw [← v3, rs c v2] at e
        rw [← u3, ← v3, wo_inj W1 u1 u2 v1 v2 e]
theorem ev_small {G : Gf} {A : Nat → Prop} {U : State} (h : Ev G U) (hA : ∀ q, A q → gA G q) : Ev (gS9 G A) U := by
  obtain ⟨h1, h2, ⟨t0, ⟨z1, t1⟩, ⟨z2, t2⟩, ⟨z3, t3⟩, ⟨z4, t4⟩, mi, q1, q2⟩, h4⟩ := h
  exact ⟨h1, h2, ⟨t0.narrow hA, ⟨z1.narrow hA, t1.narrow hA⟩, ⟨z2.narrow hA, t2.narrow hA⟩, ⟨z3.narrow hA, t3.narrow hA⟩, ⟨z4.narrow hA, t4.narrow hA⟩, mi, q1.narrow hA, q2.narrow hA⟩, h4⟩
def rsJ (σ : Nat → Nat) (s b : Hp) : Res → Res
  | .inl (v, s') => .inl (v.map (upv (sg' σ (hN s) (hN b))), jn σ s s' b)
  | .inr (E, s') => .inr (E, jn σ s s' b)
def rsH : Res → Hp
  | .inl (_, s') => s'
  | .inr (_, s') => s'
theorem upv_c (ρ σ : Nat → Nat) (v : Value) : upv ρ (upv σ v) = upv (fun i => ρ (σ i)) v := by cases v <;> rfl
theorem fr_mr {l : Launch} {y : MethodName} {w : Cond} {f mc ms : Nat} {as : List Value} {s b : Hp} {σ : Nat → Nat} {r : Res} (G : Gl) (M : MRw l G y w f mc ms as s r) (E : Emb σ s b) (gs : Good s) (gs' : Good (rsH r)) (hn : hN s ≤ hN (rsH r)) (hv : vl (hN s) as) : MRw l G y w f mc ms (as.map (upv σ)) b (rsJ σ s b r) := by
  intro htr A0 ρ hvl p e adm fc fk s0 m args below hfr happ hPc hK
  obtain ⟨ha, hE, hW, hsz⟩ := hPc
  obtain ⟨G9, eG⟩ : ∃ z : Gf, z = gW G A0 := ⟨_, rfl⟩
  rw [← eG] at hE hW hsz ⊢
  have eW : ∀ A, gW G A = gS9 G9 A := fun A => by rw [eG]; rfl
  have gb := hW.2.2.1
  obtain ⟨A, eA⟩ : ∃ A, A = aS ρ σ s s0.heap.size := ⟨_, rfl⟩
  have hA : ∀ q, A q → gA G9 q := fun q h => by
    rw [eA] at h
    rcases h with ⟨c, c6, cs, ec⟩ | h
    · rw [ec]
      obtain ⟨u, v⟩ := E.2.1 c c6 cs
      exact (wo_at hW u v).2
    · exact hsz _ h
  have eas : (as.map (upv σ)).map (upv ρ) = as.map (upv (fun i => ρ (σ i))) := by
    rw [List.map_map]
    exact List.map_congr_left (fun v _ => upv_c ρ σ v)
  have K := M htr A (fun i => ρ (σ i)) hv p e adm fc fk s0 m args below hfr happ ⟨by rw [ha, eas], by rw [eW]; exact ev_small hE hA, by rw [eW, eA]; exact wo_small hW E gs _, fun q hq => by rw [eW, eA]; exact Or.inr hq⟩ trivial
  rw [eW] at K
  obtain ⟨n, o, k1, k2, k3, k4⟩ := K
  have fr : ∀ t : State, va_F A s0 t → va_F (gA G9) s0 t := fun t h => ⟨h.1, fun q hq hn => h.2 q hq (fun z => hn (hA q z))⟩
  have big : ∀ (s' : Hp) (ρs : Nat → Nat) (t : State), Good s' → hN s ≤ hN s' → Wo (gS9 G9 A) ρs s' t.heap → (∀ a, a < hN s → ρs a = ρ (σ a)) → va_F A s0 t → Wo G9 (rh' ρ ρs (hN s) (hN b)) (jn σ s s' b) t.heap ∧ (hN b ≤ hN (jn σ s s' b) ∧ ∀ a, a < hN b → rh' ρ ρs (hN s) (hN b) a = ρ a) := fun s' ρs t g9 n9 w9 r9 f9 => by
    rw [eA] at w9 f9
    exact ⟨wo_big hW E gs g9 n9 hsz w9 r9 f9.2, Nat.le_add_right _ _, fun a ha => if_pos ha⟩
  refine ⟨n, o, k1, k2, k3, ?_⟩
  rcases k4 with ⟨⟨⟨v, h', ρs, e1, e2, e3, e4, e5, e6⟩, hF⟩, L, L1, L2⟩ | ⟨q, eo, E9, ce9, L, ⟨⟨h', ρs, e1, e4, e5, e6⟩, hF⟩, x1, x2, x3, x4, x5, x6⟩
  · subst e1
    obtain ⟨b1, b2, b3⟩ := big h' ρs _ gs' hn e4 e6 hF
    refine Or.inl ⟨⟨⟨v.map (upv (sg' σ (hN s) (hN b))), jn σ s h' b, rh' ρ ρs (hN s) (hN b), rfl, ?_, ?_, b1, b2, b3⟩, fr _ hF⟩, L, L1, fun q hq => hA _ (L2 q hq)⟩
    · rw [e2]
      congr 1
      cases v with
      | none => rfl
      | some v =>
        show some (upv ρs v) = some (upv _ (upv _ v))
        rw [upv_c]
        congr 1
        refine (upv_ext (n := hN h') (fun a ha => ?_) (e3 v rfl)).symm
        show rh' ρ ρs (hN s) (hN b) (sg' σ (hN s) (hN b) a) = ρs a
        have b6 := gb.1
        have hn : hN s ≤ hN h' := hn
        by_cases q : a < hN s
        · have : σ a < hN b := by
            by_cases z : a < 6
            · rw [E.1 a z]
              omega
            · exact (E.2.1 a (by omega) q).2
          rw [sg_o q]
          unfold rh'
          rw [if_pos this, e6 a q]
        · rw [sg_n (by omega)]
          unfold rh'
          rw [if_neg (by omega)]
          congr 1
          omega
    · intro w hw
      cases v with
      | none => cases hw
      | some v =>
        cases hw
        have := e3 v rfl
        cases v <;> first | trivial | exact sg_lt E gb.1 hn this
  · subst e1
    obtain ⟨b1, b2, b3⟩ := big h' ρs _ gs' hn e4 e6 hF
    exact Or.inr ⟨q, eo, E9, ce9, L, ⟨⟨jn σ s h' b, rh' ρ ρs (hN s) (hN b), rfl, b1, b2, b3⟩, fr _ hF⟩, x1, x2, x3, x4, x5, fun z hz => hA _ (x6 z hz)⟩
