/-! ===== the class: what is frozen, the rounds of a row ===== -/
theorem oe_c {α : Type} (c : Nat) (A : α) (f : Nat → α) : oe (some c) A f = f c := rfl
theorem kfrz_0 {w : WZ} {Z S1 : MM} {c fu : Nat} {x1 : Int32} (e29 : S1 c 29 = Z c 29) (e35 : S1 c 35 = Z c 35) (e2 : S1 c 2 = Z c 2) (e32 : S1 c 32 = Z c 32) (e36 : S1 c 36 = Z c 36) (K : Int32 × MM → Option (Int32 × MM)) :
    (k_freezeTooWide_7 w (fu + 1) x1 (some c) S1).bind K = (if Z c 29 = 0 then k_freezeTooWide_7 w fu x1 (wl w 199 c) S1 else if Z c 36 = 0 then (if Z c 32 + Z c 35 ≤ capm (Z c 2) (Z c 32 + Z c 35) then k_freezeTooWide_7 w fu x1 (wl w 199 c) S1 else k_freezeTooWide_7 w fu 1 (wl w 199 c) (u2 (u2 S1 c 32 (capm (Z c 2) (Z c 32 + Z c 35))) c 36 1)) else k_freezeTooWide_7 w fu x1 (wl w 199 c) S1).bind K := by
  rw [k_freezeTooWide_7, oe_c]
  rw [bnd_s, bnd_s, zam, e29, e36, e32, e35, e2]
  by_cases b : Z c 29 = 0
  · rw [if_pos b, if_pos b, bnd_s]
  · rw [if_neg b, if_neg b]
    by_cases a : Z c 36 = 0
    · rw [if_pos a, if_pos a]
      by_cases k : Z c 32 + Z c 35 ≤ capm (Z c 2) (Z c 32 + Z c 35)
      · rw [if_pos k, if_pos k, bnd_s]
      · rw [if_neg k, if_neg k, bnd_s, bnd_s, bnd_s]
    · rw [if_neg a, if_neg a, bnd_s]
theorem kfrz {w : WZ} {Z : MM} {cs : List Nat} {o : Option Nat} {bu : Nat → Bool} (hc : chn w o cs) (hn : cs.Nodup) (hl : cs.length ≤ 24) (hb : ∀ c, c ∈ bx Z cs → (bu c = true ↔ Z c 36 = 0 ∧ ¬ Z c 32 + Z c 35 ≤ capm (Z c 2) (Z c 32 + Z c 35))) :
    ∃ Z' : MM, ((∀ c, c ∈ bx Z cs → Z' c 32 = (if bu c = true then Z c 2 else Z c 32) ∧ Z' c 36 = if bu c = true then 1 else Z c 36) ∧ ∀ q j, (q ∉ bx Z cs ∨ (j ≠ 32 ∧ j ≠ 36)) → Z' q j = Z q j) ∧
      k_freezeTooWide_7 w 1000 0 o Z = some (if (bx Z cs).any bu = true then 1 else 0, Z') := by
  obtain ⟨s, ⟨i0, i1, i2, i3⟩, e⟩ := lpc (w := w) (σ := Int32 × MM) (τ := Int32 × MM) (pr := id) (α := Option (Int32 × MM)) (L := fun K fu o s => (k_freezeTooWide_7 w fu s.1 o s.2).bind K)
    (Inv := fun r s => (∃ pre, cs = pre ++ r ∧ s.1 = if (bx Z pre).any bu = true then 1 else 0) ∧ (∀ c, c ∈ bx Z cs → c ∉ r → s.2 c 32 = (if bu c = true then Z c 2 else Z c 32) ∧ s.2 c 36 = if bu c = true then 1 else Z c 36) ∧ (s.1 = 0 ∨ s.1 = 1) ∧
      ∀ q j, (q ∉ bx Z cs ∨ q ∈ r ∨ (j ≠ 32 ∧ j ≠ 36)) → s.2 q j = Z q j)
    (fun K fu s hi => by
      show Option.bind (if s.1 = 0 ∨ s.1 = 1 then some (s.1, s.2) else none) K = K s
      rw [if_pos hi.2.2.1]
      rfl)
    (fun fu c r s hi => by
      obtain ⟨x1, S1⟩ := s
      obtain ⟨⟨pre, i0, i0'⟩, i1, i2, i3⟩ : (∃ pre, cs = pre ++ c :: r ∧ x1 = if (bx Z pre).any bu = true then 1 else 0) ∧ (∀ d, d ∈ bx Z cs → d ∉ c :: r → S1 d 32 = (if bu d = true then Z d 2 else Z d 32) ∧ S1 d 36 = if bu d = true then 1 else Z d 36) ∧ (x1 = 0 ∨ x1 = 1) ∧
        ∀ q j, (q ∉ bx Z cs ∨ q ∈ c :: r ∨ (j ≠ 32 ∧ j ≠ 36)) → S1 q j = Z q j := hi
      obtain ⟨hcin, hcr, -⟩ := cr_in hn i0
      have hap : cs = (pre ++ [c]) ++ r := by rw [i0, List.append_assoc]; rfl
      have e29 : S1 c 29 = Z c 29 := i3 c 29 (Or.inr (Or.inr ⟨by decide, by decide⟩))
      have e35 : S1 c 35 = Z c 35 := i3 c 35 (Or.inr (Or.inr ⟨by decide, by decide⟩))
      have e2 : S1 c 2 = Z c 2 := i3 c 2 (Or.inr (Or.inr ⟨by decide, by decide⟩))
      have e32 : S1 c 32 = Z c 32 := i3 c 32 (Or.inr (Or.inl List.mem_cons_self))
      have e36 : S1 c 36 = Z c 36 := i3 c 36 (Or.inr (Or.inl List.mem_cons_self))
      have bpre : bx Z (pre ++ [c]) = if Z c 29 = 0 then bx Z pre else bx Z pre ++ [c] := by
        unfold bx
        rw [List.filter_append, List.filter_cons, List.filter_nil]
        by_cases q : Z c 29 = 0
        · rw [if_neg (fun z => (decide_eq_true_iff.mp z) q), if_pos q, List.append_nil]
        · rw [if_pos (decide_eq_true_iff.mpr q), if_neg q]
      have e0 := kfrz_0 (w := w) (fu := fu) (x1 := x1) e29 e35 e2 e32 e36
      have stay : (Z c 29 = 0 ∨ ¬ bu c = true) → ((∃ pre', cs = pre' ++ r ∧ x1 = if (bx Z pre').any bu = true then 1 else 0) ∧ (∀ d, d ∈ bx Z cs → d ∉ r → S1 d 32 = (if bu d = true then Z d 2 else Z d 32) ∧ S1 d 36 = if bu d = true then 1 else Z d 36) ∧ (x1 = 0 ∨ x1 = 1) ∧
          ∀ q j, (q ∉ bx Z cs ∨ q ∈ r ∨ (j ≠ 32 ∧ j ≠ 36)) → S1 q j = Z q j) := fun hno => by
        refine ⟨⟨pre ++ [c], hap, ?_⟩, fun d hd hdr => ?_, i2, fun q j hq => i3 q j (hq.imp id (Or.imp (fun y => List.mem_cons_of_mem _ y) id))⟩
        · rw [i0', bpre]
          by_cases q : Z c 29 = 0
          · rw [if_pos q]
          · have hnb := hno.resolve_left q
            rw [if_neg q, List.any_append, List.any_cons, List.any_nil, Bool.eq_false_iff.mpr hnb, Bool.or_false, Bool.or_false]
        · by_cases z : d = c
          · rw [z] at hd ⊢
            have hnb := hno.resolve_left (bx_m.mp hd).2
            rw [if_neg hnb, if_neg hnb]
            exact ⟨e32, e36⟩
          · exact i1 d hd (fun y => (List.mem_cons.mp y).elim z hdr)
      by_cases b : Z c 29 = 0
      · exact ⟨(x1, S1), stay (Or.inl b), fun K => (e0 K).trans (by rw [if_pos b])⟩
      · have hcb : c ∈ bx Z cs := bx_m.mpr ⟨hcin, b⟩
        have hbc := hb c hcb
        by_cases a : Z c 36 = 0
        · by_cases k : Z c 32 + Z c 35 ≤ capm (Z c 2) (Z c 32 + Z c 35)
          · exact ⟨(x1, S1), stay (Or.inr (fun z => (hbc.mp z).2 k)), fun K => (e0 K).trans (by rw [if_neg b, if_pos a, if_pos k])⟩
          · have hbu := hbc.mpr ⟨a, k⟩
            have hcap : capm (Z c 2) (Z c 32 + Z c 35) = Z c 2 := by
              unfold capm at k ⊢
              by_cases q : Z c 2 = -2
              · rw [if_pos q] at k
                exact absurd (Int32.le_refl _) k
              · rw [if_neg q] at k ⊢
                by_cases y : Z c 32 + Z c 35 ≤ Z c 2
                · rw [if_pos y] at k
                  exact absurd (Int32.le_refl _) k
                · rw [if_neg y]
            refine ⟨(1, u2 (u2 S1 c 32 (Z c 2)) c 36 1), ⟨⟨pre ++ [c], hap, ?_⟩, fun d hd hdr => ?_, Or.inr rfl, fun q j hq => ?_⟩, fun K => (e0 K).trans (by rw [if_neg b, if_pos a, if_neg k, hcap])⟩
            · show (1 : Int32) = _
              rw [bpre, if_neg b, List.any_append, List.any_cons, hbu, Bool.true_or, Bool.or_true, if_pos rfl]
            · show u2 (u2 S1 c 32 (Z c 2)) c 36 1 d 32 = _ ∧ u2 (u2 S1 c 32 (Z c 2)) c 36 1 d 36 = _
              by_cases z : d = c
              · rw [z, u2_ne (by omega), u2_self, u2_self, if_pos hbu, if_pos hbu]
                exact ⟨rfl, rfl⟩
              · rw [u2_row z, u2_row z, u2_row z, u2_row z]
                exact i1 d hd (fun y => (List.mem_cons.mp y).elim z hdr)
            · show u2 (u2 S1 c 32 (Z c 2)) c 36 1 q j = _
              by_cases z : q = c
              · subst z
                rcases hq with y | y | y
                · exact absurd hcb y
                · exact absurd y hcr
                · rw [u2_ne (by omega), u2_ne (by omega)]
                  exact i3 q j (Or.inr (Or.inr y))
              · rw [u2_row z, u2_row z]
                exact i3 q j (hq.imp id (Or.imp (fun y => List.mem_cons_of_mem _ y) id))
        · exact ⟨(x1, S1), stay (Or.inr (fun z => a (hbc.mp z).1)), fun K => (e0 K).trans (by rw [if_neg b, if_neg a])⟩) cs o (0, Z) 1000 hc (by omega) ⟨⟨[], rfl, (if_neg (fun z => Bool.noConfusion z)).symm⟩, fun c hc hcr => absurd (bx_m.mp hc).1 hcr, Or.inl rfl, fun _ _ _ => rfl⟩
  obtain ⟨x1, Z'⟩ := s
  obtain ⟨pre, j0, j1⟩ := i0
  rw [List.append_nil] at j0
  have j1' : x1 = if (bx Z cs).any bu = true then 1 else 0 := by rw [j0]; exact j1
  subst j1'
  exact ⟨Z', ⟨fun c hc => i1 c hc (by intro z; cases z), fun q j hq => i3 q j (hq.imp id Or.inr)⟩, bind_so (e some)⟩
/-- the gains given -/
theorem kg101 {w : WZ} {Z : MM} {cs : List Nat} {o : Option Nat} (hc : chn w o cs) (hn : cs.Nodup) (hl : cs.length ≤ 24) :
    ∃ Z' : MM, ((∀ c, c ∈ cs → Z' c 32 = Z c 32 + Z c 35) ∧ ∀ q j, (q ∉ cs ∨ j ≠ 32) → Z' q j = Z q j) ∧ k_shareRest_101 w 1000 o Z = some (1, Z') := by
  obtain ⟨s, ⟨i0, i1, i2⟩, e⟩ := lpc (w := w) (σ := MM) (τ := Int32 × MM) (pr := fun s => (1, s)) (α := Option (Int32 × MM)) (L := fun K fu o s => (k_shareRest_101 w fu o s).bind K)
    (Inv := fun r s => (∃ pre, cs = pre ++ r) ∧ (∀ c, c ∈ cs → c ∉ r → s c 32 = Z c 32 + Z c 35) ∧ ∀ q j, (q ∉ cs ∨ q ∈ r ∨ j ≠ 32) → s q j = Z q j)
    (fun K fu s _ => rfl)
    (fun fu c r s hi => by
      obtain ⟨⟨pre, i0⟩, i1, i2⟩ := hi
      obtain ⟨hcin, hcr, hpre⟩ := cr_in hn i0
      refine ⟨u2 s c 32 (Z c 32 + Z c 35), ⟨hpre, fun d hd hdr => ?_, fun q j hq => ?_⟩, fun K => ?_⟩
      · by_cases z : d = c
        · rw [z, u2_self]
        · rw [u2_row z]
          exact i1 d hd (fun y => (List.mem_cons.mp y).elim z hdr)
      · by_cases z : q = c
        · subst z
          rcases hq with y | y | y
          · exact absurd hcin y
          · exact absurd y hcr
          · rw [u2_ne (by omega)]
            exact i2 q j (Or.inr (Or.inr y))
        · rw [u2_row z]
          exact i2 q j (hq.imp id (Or.imp (fun y => List.mem_cons_of_mem _ y) id))
      · show Option.bind (bnd (u2 s c 32 (s c 32 + s c 35)) fun Z23 => bnd (wl w 199 c) fun p24 => k_shareRest_101 w fu p24 Z23) K = _
        rw [i2 c 32 (Or.inr (Or.inl List.mem_cons_self)), i2 c 35 (Or.inr (Or.inr (by decide)))]
        rfl) cs o Z 1000 hc (by omega) ⟨⟨[], rfl⟩, fun c hc hcr => absurd hc hcr, fun _ _ _ => rfl⟩
  exact ⟨s, ⟨fun c hc => i1 c hc (by intro z; cases z), fun q j hq => i2 q j (hq.imp id Or.inr)⟩, bind_so (e some)⟩
/-- a round -/
theorem kshr {w : WZ} {Z : MM} {cs : List Nat} {x0 : Nat} {g m : Nat → Int32} (hc : chn w (wl w 200 x0) cs) (hn : cs.Nodup) (hx : x0 ∉ cs) (hl : cs.length ≤ 24) (hg0 : ∀ c, 0 ≤ g c) (hg : ∀ c, c ∈ bx Z cs → Z c 6 = g c) (hm : ∀ c, c ∈ bx Z cs → Z c 2 = m c) (wf fz : Nat → Int32) (hw : ∀ c, c ∈ bx Z cs → Z c 32 = wf c) (hf : ∀ c, c ∈ bx Z cs → Z c 36 = fz c) :
    ∃ (b : Int32) (Z' : MM), k_shareRest w Z x0 = some (b, Z') ∧ (∀ q j, (q ∉ cs ∨ (j ≠ 32 ∧ j ≠ 35 ∧ j ≠ 36)) → Z' q j = Z q j) ∧ (∀ c, c ∈ cs → Z c 29 = 0 → Z' c 32 = Z c 32 ∧ Z' c 36 = Z c 36) ∧
      ((shR wf (bx Z cs) (Z x0 32) ≤ 0 ∨ shU fz g (bx Z cs) 0 ≤ 0 → b = 1 ∧ ∀ c, c ∈ bx Z cs → Z' c 32 = wf c) ∧
      (¬ (shR wf (bx Z cs) (Z x0 32) ≤ 0 ∨ shU fz g (bx Z cs) 0 ≤ 0) →
        ((bx Z cs).any (shB wf fz m (shN (bx Z cs) (Z x0 32) g wf fz)) = true → b = 0 ∧ ∀ c, c ∈ bx Z cs → Z' c 32 = (if shB wf fz m (shN (bx Z cs) (Z x0 32) g wf fz) c = true then m c else wf c) ∧ Z' c 36 = if shB wf fz m (shN (bx Z cs) (Z x0 32) g wf fz) c = true then 1 else fz c) ∧
        (¬ (bx Z cs).any (shB wf fz m (shN (bx Z cs) (Z x0 32) g wf fz)) = true → b = 1 ∧ ∀ c, c ∈ bx Z cs → Z' c 32 = wf c + shN (bx Z cs) (Z x0 32) g wf fz c))) := by
  have cR : ∀ (ks : List Nat) (f f' : Nat → Int32) (a : Int32), (∀ c, c ∈ ks → f c = f' c) → shR f ks a = shR f' ks a := by
    intro ks
    induction ks with
    | nil => exact fun _ _ _ _ => rfl
    | cons c ks ih =>
      intro f f' a h
      show shR f ks (a - f c) = shR f' ks (a - f' c)
      rw [h c List.mem_cons_self]
      exact ih f f' _ (fun d hd => h d (List.mem_cons_of_mem _ hd))
  have cU : ∀ (ks : List Nat) (f f' h h' : Nat → Int32) (a : Int32), (∀ c, c ∈ ks → f c = f' c) → (∀ c, c ∈ ks → h c = h' c) → shU f h ks a = shU f' h' ks a := by
    intro ks
    induction ks with
    | nil => exact fun _ _ _ _ _ _ _ => rfl
    | cons c ks ih =>
      intro f f' h h' a k1 k2
      show shU f h ks (a + (if f c = 0 then h c else 0)) = shU f' h' ks (a + (if f' c = 0 then h' c else 0))
      rw [k1 c List.mem_cons_self, k2 c List.mem_cons_self]
      exact ih f f' h h' _ (fun d hd => k1 d (List.mem_cons_of_mem _ hd)) (fun d hd => k2 d (List.mem_cons_of_mem _ hd))
  have cP : ∀ (rest sum : Int32) (f f' h h' : Nat → Int32) (c : Nat), f c = f' c → h c = h' c → shP rest sum f h c = shP rest sum f' h' c := fun rest sum f f' h h' c k1 k2 => by
    unfold shP
    rw [k1, k2]
  have cO : ∀ (ks : List Nat) (rest sum : Int32) (f f' h h' : Nat → Int32) (a : Int32), (∀ c, c ∈ ks → f c = f' c) → (∀ c, c ∈ ks → h c = h' c) → shO rest sum f h ks a = shO rest sum f' h' ks a := by
    intro ks
    induction ks with
    | nil => exact fun _ _ _ _ _ _ _ _ _ => rfl
    | cons c ks ih =>
      intro rest sum f f' h h' a k1 k2
      show shO rest sum f h ks (a - shP rest sum f h c) = shO rest sum f' h' ks (a - shP rest sum f' h' c)
      rw [cP rest sum f f' h h' c (k1 c List.mem_cons_self) (k2 c List.mem_cons_self)]
      exact ih rest sum f f' h h' _ (fun d hd => k1 d (List.mem_cons_of_mem _ hd)) (fun d hd => k2 d (List.mem_cons_of_mem _ hd))
  have cG : ∀ (ks : List Nat) (rest sum : Int32) (f f' h : Nat → Int32) (a : Int32) (z : Nat), (∀ c, c ∈ ks → f c = f' c) → shG rest sum f h ks a z = shG rest sum f' h ks a z := by
    intro ks
    induction ks with
    | nil => exact fun _ _ _ _ _ _ _ _ => rfl
    | cons c ks ih =>
      intro rest sum f f' h a z k1
      rw [shG, shG, k1 c List.mem_cons_self, ih rest sum f f' h _ z (fun d hd => k1 d (List.mem_cons_of_mem _ hd))]
  have eR : shR (fun c => Z c 32) (bx Z cs) (Z x0 32) = shR wf (bx Z cs) (Z x0 32) := cR _ _ _ _ hw
  have eU : shU (fun c => Z c 36) (fun c => Z c 6) (bx Z cs) 0 = shU fz g (bx Z cs) 0 := cU _ _ _ _ _ _ hf hg
  have e0 : k_shareRest w Z x0 = if shR wf (bx Z cs) (Z x0 32) ≤ 0 then some (1, Z) else if 0 < shU fz g (bx Z cs) 0 then (bd (k_findGains w Z x0 (shR wf (bx Z cs) (Z x0 32)) (shU fz g (bx Z cs) 0)) fun Z18 => bd2 (k_freezeTooWide w Z18 x0) fun p19 Z20 => if p19 = 0 then bnd (wl w 200 x0) (fun p21 => k_shareRest_101 w 1000 p21 Z20) else some (0, Z20)) else some (1, Z) := by
    rw [← eR, ← eU]
    unfold k_shareRest
    rw [bnd_s, bnd_s, ksum cs (wl w 200 x0) 1000 (Z x0 32) 0 hc (by omega)]
  rw [e0]
  by_cases a : shR wf (bx Z cs) (Z x0 32) ≤ 0
  · rw [if_pos a]
    exact ⟨1, Z, rfl, fun _ _ _ => rfl, fun _ _ _ => ⟨rfl, rfl⟩, fun _ => ⟨rfl, hw⟩, fun z => absurd (Or.inl a) z⟩
  · rw [if_neg a]
    by_cases b : 0 < shU fz g (bx Z cs) 0
    · have hs : ¬ shU fz g (bx Z cs) 0 ≤ 0 := Int32.not_le.mpr b
      rw [if_pos b]
      obtain ⟨Z1, ⟨p1, p2⟩, p3⟩ := kg8 (Z := Z) (rest := shR wf (bx Z cs) (Z x0 32)) hc hn hl hs
      have eO : shO (shR wf (bx Z cs) (Z x0 32)) (shU fz g (bx Z cs) 0) (fun c => Z c 36) (fun c => Z c 6) (bx Z cs) (shR wf (bx Z cs) (Z x0 32)) = shO (shR wf (bx Z cs) (Z x0 32)) (shU fz g (bx Z cs) 0) fz g (bx Z cs) (shR wf (bx Z cs) (Z x0 32)) := cO _ _ _ _ _ _ _ _ hf hg
      rw [eO] at p3
      have b1 : bx Z1 cs = bx Z cs := bx_c (fun c _ => p2 c 29 (Or.inr (by decide)))
      obtain ⟨Z2, ⟨q1, q2⟩, q3⟩ := kg84 (Z := Z1) (g := g) (rest := shR wf (bx Z cs) (Z x0 32)) (sum := shU fz g (bx Z cs) 0) (mo := shO (shR wf (bx Z cs) (Z x0 32)) (shU fz g (bx Z cs) 0) fz g (bx Z cs) (shR wf (bx Z cs) (Z x0 32))) hc hn hl hg0 (fun c hcb => by
        rw [b1] at hcb
        rw [p2 c 6 (Or.inr (by decide))]
        exact hg c hcb) (fun c hcb => by
        rw [b1] at hcb
        rw [p1 c (bx_m.mp hcb).1, if_neg (bx_m.mp hcb).2]
        exact cP _ _ _ _ _ _ c (p2 c 36 (Or.inr (by decide))).symm (hg c hcb))
      rw [b1] at q1 q2
      have q1' : ∀ c, c ∈ bx Z cs → Z2 c 35 = shN (bx Z cs) (Z x0 32) g wf fz c := fun c hcb => by
        rw [q1 c hcb]
        exact cG _ _ _ _ _ _ _ _ (fun d hd => by rw [p2 d 36 (Or.inr (by decide))]; exact hf d hd)
      have z35 : ∀ c, c ∈ cs → Z c 29 = 0 → Z2 c 35 = 0 := fun c hcc h0 => by
        rw [q2 c 35 (Or.inl (fun z => (bx_m.mp z).2 h0)), p1 c hcc, if_pos h0]
      have o2 : ∀ q j, (q ∉ cs ∨ j ≠ 35) → Z2 q j = Z q j := fun q j hq => by
        rw [q2 q j (hq.imp (fun y z => y (bx_m.mp z).1) id), p2 q j hq]
      have b2 : bx Z2 cs = bx Z cs := bx_c (fun c _ => o2 c 29 (Or.inr (by decide)))
      generalize shN (bx Z cs) (Z x0 32) g wf fz = GN at q1' ⊢
      obtain ⟨Z3, ⟨r1, r2⟩, r3⟩ := kfrz (Z := Z2) (bu := shB wf fz m GN) hc hn hl (fun c hcb => by
        rw [b2] at hcb
        unfold shB
        rw [decide_eq_true_iff, o2 c 36 (Or.inr (by decide)), o2 c 32 (Or.inr (by decide)), o2 c 2 (Or.inr (by decide)), q1' c hcb, hf c hcb, hw c hcb, hm c hcb])
      rw [b2] at r1 r2 r3
      have ef : bd (k_findGains w Z x0 (shR wf (bx Z cs) (Z x0 32)) (shU fz g (bx Z cs) 0)) (fun Z18 => bd2 (k_freezeTooWide w Z18 x0) fun p19 Z20 => if p19 = 0 then bnd (wl w 200 x0) (fun p21 => k_shareRest_101 w 1000 p21 Z20) else some (0, Z20)) =
          if (if (bx Z cs).any (shB wf fz m GN) = true then (1 : Int32) else 0) = 0 then k_shareRest_101 w 1000 (wl w 200 x0) Z3 else some (0, Z3) := by
        have e1 : k_findGains w Z x0 (shR wf (bx Z cs) (Z x0 32)) (shU fz g (bx Z cs) 0) = some Z2 := by
          unfold k_findGains
          rw [bnd_s, p3]
          exact q3
        have e2 : k_freezeTooWide w Z2 x0 = some (if (bx Z cs).any (shB wf fz m GN) = true then 1 else 0, Z3) := r3
        rw [e1, bd_s, e2]
        rfl
      rw [ef]
      by_cases t : (bx Z cs).any (shB wf fz m GN) = true
      · rw [if_pos t, if_neg (show ¬ (1 : Int32) = 0 by decide)]
        refine ⟨0, Z3, rfl, fun q j hq => ?_, fun c hcc h0 => ?_, fun z => absurd z (fun y => y.elim a hs), fun _ => ⟨fun _ => ⟨rfl, fun c hcb => ?_⟩, fun z => absurd t z⟩⟩
        · rw [r2 q j (hq.imp (fun y z => y (bx_m.mp z).1) (fun y => ⟨y.1, y.2.2⟩)), o2 q j (hq.imp id (fun y => y.2.1))]
        · rw [r2 c 32 (Or.inl (fun z => (bx_m.mp z).2 h0)), r2 c 36 (Or.inl (fun z => (bx_m.mp z).2 h0)), o2 c 32 (Or.inr (by decide)), o2 c 36 (Or.inr (by decide))]
          exact ⟨rfl, rfl⟩
        · obtain ⟨x, y⟩ := r1 c hcb
          rw [x, y, o2 c 2 (Or.inr (by decide)), o2 c 32 (Or.inr (by decide)), o2 c 36 (Or.inr (by decide)), hm c hcb, hw c hcb, hf c hcb]
          exact ⟨rfl, rfl⟩
      · rw [if_neg t, if_pos rfl]
        obtain ⟨Z4, ⟨s1, s2⟩, s3⟩ := kg101 (Z := Z3) hc hn hl
        refine ⟨1, Z4, s3, fun q j hq => ?_, fun c hcc h0 => ?_, fun z => absurd z (fun y => y.elim a hs), fun _ => ⟨fun z => absurd z t, fun _ => ⟨rfl, fun c hcb => ?_⟩⟩⟩
        · rw [s2 q j (hq.imp id (fun y => y.1)), r2 q j (hq.imp (fun y z => y (bx_m.mp z).1) (fun y => ⟨y.1, y.2.2⟩)), o2 q j (hq.imp id (fun y => y.2.1))]
        · rw [s1 c hcc, s2 c 36 (Or.inr (by decide)), r2 c 32 (Or.inl (fun z => (bx_m.mp z).2 h0)), r2 c 36 (Or.inl (fun z => (bx_m.mp z).2 h0)), r2 c 35 (Or.inl (fun z => (bx_m.mp z).2 h0)), z35 c hcc h0, o2 c 32 (Or.inr (by decide)), o2 c 36 (Or.inr (by decide)), Int32.add_zero]
          exact ⟨rfl, rfl⟩
        · have hnb : ¬ shB wf fz m GN c = true := fun z => t (List.any_eq_true.mpr ⟨c, hcb, z⟩)
          rw [s1 c (bx_m.mp hcb).1, (r1 c hcb).1, if_neg hnb, r2 c 35 (Or.inr ⟨by decide, by decide⟩), q1' c hcb, o2 c 32 (Or.inr (by decide)), hw c hcb]
    · rw [if_neg b]
      exact ⟨1, Z, rfl, fun _ _ _ => rfl, fun _ _ _ => ⟨rfl, rfl⟩, fun _ => ⟨rfl, hw⟩, fun z => absurd (Or.inr (Int32.not_lt.mp b)) z⟩
/-- the rounds -/
theorem krow68 {w : WZ} {cs : List Nat} {x0 : Nat} {g m : Nat → Int32} (hc : chn w (wl w 200 x0) cs) (hn : cs.Nodup) (hx : x0 ∉ cs) (hl : cs.length ≤ 24) (hg0 : ∀ c, 0 ≤ g c) : ∀ (j : Nat), j ≤ 25 → ∀ (wf fz : Nat → Int32) (Z : MM) (fu : Nat), j + 2 ≤ fu →
    (∀ c, c ∈ bx Z cs → Z c 6 = g c) → (∀ c, c ∈ bx Z cs → Z c 2 = m c) → (∀ c, c ∈ bx Z cs → Z c 32 = wf c) → (∀ c, c ∈ bx Z cs → Z c 36 = fz c) →
    ∃ Z' : MM, ((∀ c, c ∈ bx Z cs → Z' c 32 = shF (bx Z cs) (Z x0 32) g m j wf fz c) ∧ (∀ q j, (q ∉ cs ∨ (j ≠ 32 ∧ j ≠ 35 ∧ j ≠ 36)) → Z' q j = Z q j) ∧ ∀ c, c ∈ cs → Z c 29 = 0 → Z' c 32 = Z c 32) ∧ ∀ K, k_measureRow_68 K w x0 fu 0 (nI (25 - j)) Z = K Z' := by
  intro j
  induction j with
  | zero =>
    intro _ wf fz Z fu hf hg hm hw hfz
    obtain ⟨fu, rfl⟩ : ∃ z, fu = z + 1 := ⟨fu - 1, by omega⟩
    refine ⟨Z, ⟨hw, fun _ _ _ => rfl, fun _ _ _ => rfl⟩, fun K => ?_⟩
    rw [k_measureRow_68, if_pos (by decide)]
  | succ j ih =>
    intro hj wf fz Z fu hf hg hm hw hfz
    obtain ⟨fu, rfl⟩ : ∃ z, fu = z + 2 := ⟨fu - 2, by omega⟩
    obtain ⟨b, Z1, e1, o1, u1, c1, c2⟩ := kshr hc hn hx hl hg0 hg hm wf fz hw hfz
    have hlt : ¬ (24 : Int32) < nI (25 - (j + 1)) := nI_nlt (a := 24) (b := 25 - (j + 1)) (by omega) (by decide)
    have stop : b = 1 → ∀ K : MM → Option MM, k_measureRow_68 K w x0 (fu + 2) 0 (nI (25 - (j + 1))) Z = K Z1 := fun hb K => by
      rw [k_measureRow_68, if_neg hlt, if_pos rfl, e1, hb]
      show k_measureRow_68 K w x0 (fu + 1) 1 (nI (25 - (j + 1)) + 1) Z1 = K Z1
      rw [k_measureRow_68]
      by_cases q : (24 : Int32) < nI (25 - (j + 1)) + 1
      · rw [if_pos q]
      · rw [if_neg q, if_neg (by decide)]
    have b1 : bx Z1 cs = bx Z cs := bx_c (fun c _ => o1 c 29 (Or.inr ⟨by decide, by decide, by decide⟩))
    have hu : ∀ c, c ∈ cs → Z c 29 = 0 → Z1 c 32 = Z c 32 := fun c hcc h0 => (u1 c hcc h0).1
    unfold shF
    by_cases a : shR wf (bx Z cs) (Z x0 32) ≤ 0 ∨ shU fz g (bx Z cs) 0 ≤ 0
    · rw [if_pos a]
      obtain ⟨d1, d2⟩ := c1 a
      exact ⟨Z1, ⟨d2, o1, hu⟩, stop d1⟩
    · rw [if_neg a]
      obtain ⟨d1, d2⟩ := c2 a
      by_cases t : (bx Z cs).any (shB wf fz m (shN (bx Z cs) (Z x0 32) g wf fz)) = true
      · rw [if_pos t]
        obtain ⟨f1, f2⟩ := d1 t
        have hx32 : Z1 x0 32 = Z x0 32 := o1 x0 32 (Or.inl hx)
        obtain ⟨Z2, ⟨g1, g2, g3⟩, e2⟩ := ih (by omega) (fun c => if shB wf fz m (shN (bx Z cs) (Z x0 32) g wf fz) c = true then m c else wf c) (fun c => if shB wf fz m (shN (bx Z cs) (Z x0 32) g wf fz) c = true then 1 else fz c) Z1 (fu + 1) (by omega)
          (fun c hcb => by rw [b1] at hcb; rw [o1 c 6 (Or.inr ⟨by decide, by decide, by decide⟩)]; exact hg c hcb) (fun c hcb => by rw [b1] at hcb; rw [o1 c 2 (Or.inr ⟨by decide, by decide, by decide⟩)]; exact hm c hcb)
          (fun c hcb => by rw [b1] at hcb; exact (f2 c hcb).1) (fun c hcb => by rw [b1] at hcb; exact (f2 c hcb).2)
        rw [b1, hx32] at g1
        refine ⟨Z2, ⟨g1, fun q i hq => (g2 q i hq).trans (o1 q i hq), fun c hcc h0 => ?_⟩, fun K => ?_⟩
        · rw [g3 c hcc (by rw [o1 c 29 (Or.inr ⟨by decide, by decide, by decide⟩)]; exact h0)]
          exact hu c hcc h0
        · rw [k_measureRow_68, if_neg hlt, if_pos rfl, e1, f1]
          show k_measureRow_68 K w x0 (fu + 1) 0 (nI (25 - (j + 1)) + 1) Z1 = K Z2
          rw [nI_1, show 25 - (j + 1) + 1 = 25 - j by omega]
          exact e2 K
      · rw [if_neg t]
        obtain ⟨f1, f2⟩ := d2 t
        exact ⟨Z1, ⟨f2, o1, hu⟩, stop f1⟩
