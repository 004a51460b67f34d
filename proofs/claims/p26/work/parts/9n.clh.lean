/-! ===== what depends on the children alone ===== -/
theorem shR_c : ∀ (ks : List Nat) {f f' : Nat → Int32} (a : Int32), (∀ c, c ∈ ks → f c = f' c) → shR f ks a = shR f' ks a
  | [], _, _, _, _ => rfl
  | c :: ks, f, f', a, h => by
    show shR f ks (a - f c) = shR f' ks (a - f' c)
    rw [h c List.mem_cons_self]
    exact shR_c ks _ (fun d hd => h d (List.mem_cons_of_mem _ hd))
theorem shU_c : ∀ (ks : List Nat) {f f' g g' : Nat → Int32} (a : Int32), (∀ c, c ∈ ks → f c = f' c) → (∀ c, c ∈ ks → g c = g' c) → shU f g ks a = shU f' g' ks a
  | [], _, _, _, _, _, _, _ => rfl
  | c :: ks, f, f', g, g', a, h, k => by
    show shU f g ks (a + (if f c = 0 then g c else 0)) = shU f' g' ks (a + (if f' c = 0 then g' c else 0))
    rw [h c List.mem_cons_self, k c List.mem_cons_self]
    exact shU_c ks _ (fun d hd => h d (List.mem_cons_of_mem _ hd)) (fun d hd => k d (List.mem_cons_of_mem _ hd))
theorem shO_c {rest sum : Int32} : ∀ (ks : List Nat) {f f' g g' : Nat → Int32} (a : Int32), (∀ c, c ∈ ks → f c = f' c) → (∀ c, c ∈ ks → g c = g' c) → shO rest sum f g ks a = shO rest sum f' g' ks a
  | [], _, _, _, _, _, _, _ => rfl
  | c :: ks, f, f', g, g', a, h, k => by
    show shO rest sum f g ks (a - shP rest sum f g c) = shO rest sum f' g' ks (a - shP rest sum f' g' c)
    have : shP rest sum f g c = shP rest sum f' g' c := by
      unfold shP
      rw [h c List.mem_cons_self, k c List.mem_cons_self]
    rw [this]
    exact shO_c ks _ (fun d hd => h d (List.mem_cons_of_mem _ hd)) (fun d hd => k d (List.mem_cons_of_mem _ hd))
theorem shG_c {rest sum : Int32} : ∀ (ks : List Nat) {f f' g g' : Nat → Int32} (a : Int32) (z : Nat), (∀ c, c ∈ ks → f c = f' c) → (∀ c, c ∈ ks → g c = g' c) → shG rest sum f g ks a z = shG rest sum f' g' ks a z
  | [], _, _, _, _, _, _, _, _ => rfl
  | c :: ks, f, f', g, g', a, z, h, k => by
    rw [shG, shG, h c List.mem_cons_self, k c List.mem_cons_self, shG_c ks _ z (fun d hd => h d (List.mem_cons_of_mem _ hd)) (fun d hd => k d (List.mem_cons_of_mem _ hd))]
theorem shN_c {ks : List Nat} {Wd : Int32} {w w' f f' g g' : Nat → Int32} (z : Nat) (hw : ∀ c, c ∈ ks → w c = w' c) (h : ∀ c, c ∈ ks → f c = f' c) (k : ∀ c, c ∈ ks → g c = g' c) : shN ks Wd g w f z = shN ks Wd g' w' f' z := by
  unfold shN
  rw [shR_c ks Wd hw, shU_c ks 0 h k, shO_c ks _ h k, shG_c ks _ z h k]
theorem any_c {f g : Nat → Bool} : ∀ (ks : List Nat), (∀ c, c ∈ ks → f c = g c) → ks.any f = ks.any g
  | [], _ => rfl
  | c :: ks, h => by rw [List.any_cons, List.any_cons, h c List.mem_cons_self, any_c ks (fun d hd => h d (List.mem_cons_of_mem _ hd))]
theorem shF_c {ks : List Nat} {Wd : Int32} {g g' m m' : Nat → Int32} (hg : ∀ c, c ∈ ks → g c = g' c) (hm : ∀ c, c ∈ ks → m c = m' c) : ∀ (j : Nat) (w w' f f' : Nat → Int32), (∀ c, c ∈ ks → w c = w' c) → (∀ c, c ∈ ks → f c = f' c) → ∀ c, c ∈ ks → shF ks Wd g m j w f c = shF ks Wd g' m' j w' f' c
  | 0, _, _, _, _, hw, _, c, hc => hw c hc
  | j + 1, w, w', f, f', hw, hf, c, hc => by
    have hN : ∀ z, shN ks Wd g w f z = shN ks Wd g' w' f' z := fun z => shN_c z hw hf hg
    have hB : ∀ z, z ∈ ks → shB w f m (shN ks Wd g w f) z = shB w' f' m' (shN ks Wd g' w' f') z := fun z hz => by
      unfold shB
      rw [hN z, hw z hz, hf z hz, hm z hz]
    unfold shF
    rw [shR_c ks Wd hw, shU_c ks 0 hf hg, any_c ks hB]
    by_cases a : shR w' ks Wd ≤ 0 ∨ shU f' g' ks 0 ≤ 0
    · rw [if_pos a, if_pos a]
      exact hw c hc
    · rw [if_neg a, if_neg a]
      by_cases t : ks.any (shB w' f' m' (shN ks Wd g' w' f')) = true
      · rw [if_pos t, if_pos t]
        exact shF_c hg hm j _ _ _ _ (fun d hd => by rw [hB d hd, hm d hd, hw d hd]) (fun d hd => by rw [hB d hd, hf d hd]) c hc
      · rw [if_neg t, if_neg t]
        show w c + _ = w' c + _
        rw [hw c hc, hN c]
theorem rwL_c : ∀ (ks : List Nat) {w w' : Nat → Int32} (x : Int32) (z : Nat), (∀ c, c ∈ ks → w c = w' c) → rwL w ks x z = rwL w' ks x z
  | [], _, _, _, _, _ => rfl
  | c :: ks, w, w', x, z, h => by rw [rwL, rwL, h c List.mem_cons_self, rwL_c ks _ z (fun d hd => h d (List.mem_cons_of_mem _ hd))]
theorem sb_c : ∀ (ks : List Nat) {A A' H H' B B' : Nat → Int32} (x y : Int32), (∀ c, c ∈ ks → A c = A' c) → (∀ c, c ∈ ks → H c = H' c) → (∀ c, c ∈ ks → B c = B' c) → sbE A H B ks x y = sbE A' H' B' ks x y ∧ ∀ z, sbT A H B ks x y z = sbT A' H' B' ks x y z
  | [], _, _, _, _, _, _, _, _, _, _, _ => ⟨rfl, fun _ => rfl⟩
  | c :: ks, A, A', H, H', B, B', x, y, a, h, b => by
    rw [sbE, sbE, a c List.mem_cons_self, h c List.mem_cons_self, b c List.mem_cons_self]
    obtain ⟨i1, i2⟩ := sb_c ks (x + mxI y (A' c) + H' c) (B' c) (fun d hd => a d (List.mem_cons_of_mem _ hd)) (fun d hd => h d (List.mem_cons_of_mem _ hd)) (fun d hd => b d (List.mem_cons_of_mem _ hd))
    refine ⟨i1, fun z => ?_⟩
    rw [sbT, sbT, a c List.mem_cons_self, h c List.mem_cons_self, b c List.mem_cons_self, i2 z]
theorem sr_c {t : Int32} : ∀ (ks : List Nat) {A A' H H' B B' : Nat → Int32} (x y k : Int32), (∀ c, c ∈ ks → A c = A' c) → (∀ c, c ∈ ks → H c = H' c) → (∀ c, c ∈ ks → B c = B' c) → srE t A H B ks x y k = srE t A' H' B' ks x y k ∧ ∀ z, srT t A H B ks x y k z = srT t A' H' B' ks x y k z
  | [], _, _, _, _, _, _, _, _, _, _, _, _ => ⟨rfl, fun _ => rfl⟩
  | c :: ks, A, A', H, H', B, B', x, y, k, a, h, b => by
    have i := fun x y k => sr_c (t := t) ks x y k (fun d hd => a d (List.mem_cons_of_mem _ hd)) (fun d hd => h d (List.mem_cons_of_mem _ hd)) (fun d hd => b d (List.mem_cons_of_mem _ hd))
    refine ⟨?_, fun z => ?_⟩
    · rw [srE, srE, a c List.mem_cons_self, h c List.mem_cons_self, b c List.mem_cons_self, (i _ _ _).1, (i _ _ _).1]
    · rw [srT, srT, a c List.mem_cons_self, h c List.mem_cons_self, b c List.mem_cons_self, (i _ _ _).2, (i _ _ _).2]
/-! ===== the class: heights ===== -/
theorem kstB {w : WZ} {Z : MM} {cs : List Nat} {o : Option Nat} {x0 : Int32} (hc : chn w o cs) (hn : cs.Nodup) (hl : cs.length ≤ 24) :
    ∃ Z' : MM, ((∀ c, c ∈ bx Z cs → Z' c 31 = sbT (fun c => Z c 3) (fun c => Z c 33) (fun c => Z c 4) (bx Z cs) x0 0 c) ∧ ∀ q j, (q ∉ bx Z cs ∨ j ≠ 31) → Z' q j = Z q j) ∧ k_stackBlocks_10 w 1000 x0 0 o Z = some (sbE (fun c => Z c 3) (fun c => Z c 33) (fun c => Z c 4) (bx Z cs) x0 0, Z') := by
  obtain ⟨T0, eT⟩ : ∃ T0, T0 = sbT (fun c => Z c 3) (fun c => Z c 33) (fun c => Z c 4) (bx Z cs) x0 0 := ⟨_, rfl⟩
  obtain ⟨E0, eE⟩ : ∃ E0, E0 = sbE (fun c => Z c 3) (fun c => Z c 33) (fun c => Z c 4) (bx Z cs) x0 0 := ⟨_, rfl⟩
  rw [← eT, ← eE]
  obtain ⟨s, ⟨i0, i1, i2, i3, i4⟩, e⟩ := lpc (w := w) (σ := (Int32 × Int32) × MM) (τ := Int32 × MM) (pr := fun s => (s.1.1 + s.1.2, s.2)) (α := Option (Int32 × MM)) (L := fun K fu o s => (k_stackBlocks_10 w fu s.1.1 s.1.2 o s.2).bind K)
    (Inv := fun r s => (∃ pre, cs = pre ++ r) ∧ sbE (fun c => Z c 3) (fun c => Z c 33) (fun c => Z c 4) (bx Z r) s.1.1 s.1.2 = E0 ∧ (∀ z, z ∈ bx Z r → sbT (fun c => Z c 3) (fun c => Z c 33) (fun c => Z c 4) (bx Z r) s.1.1 s.1.2 z = T0 z) ∧ (∀ c, c ∈ bx Z cs → c ∉ r → s.2 c 31 = T0 c) ∧ ∀ q j, (q ∉ bx Z cs ∨ q ∈ r ∨ j ≠ 31) → s.2 q j = Z q j)
    (fun K fu s _ => rfl)
    (fun fu c r s hi => by
      obtain ⟨⟨x, y⟩, S1⟩ := s
      obtain ⟨⟨pre, i0⟩, i1, i2, i3, i4⟩ : (∃ pre, cs = pre ++ c :: r) ∧ sbE (fun c => Z c 3) (fun c => Z c 33) (fun c => Z c 4) (bx Z (c :: r)) x y = E0 ∧ (∀ z, z ∈ bx Z (c :: r) → sbT (fun c => Z c 3) (fun c => Z c 33) (fun c => Z c 4) (bx Z (c :: r)) x y z = T0 z) ∧ (∀ d, d ∈ bx Z cs → d ∉ c :: r → S1 d 31 = T0 d) ∧ ∀ q j, (q ∉ bx Z cs ∨ q ∈ c :: r ∨ j ≠ 31) → S1 q j = Z q j := hi
      obtain ⟨hcin, hcr, hpre⟩ := cr_in hn i0
      have e29 : S1 c 29 = Z c 29 := i4 c 29 (Or.inr (Or.inr (by decide)))
      have e0 : ∀ K : Int32 × MM → Option (Int32 × MM), (k_stackBlocks_10 w (fu + 1) x y (some c) S1).bind K = if Z c 29 = 0 then (k_stackBlocks_10 w fu x y (wl w 199 c) S1).bind K else (k_stackBlocks_10 w fu (x + mxI y (Z c 3) + Z c 33) (Z c 4) (wl w 199 c) (u2 S1 c 31 (x + mxI y (Z c 3)))).bind K := fun K => by
        rw [k_stackBlocks_10, oe_c, e29]
        by_cases b : Z c 29 = 0
        · rw [if_pos b, if_pos b, bnd_s]
        · rw [if_neg b, if_neg b, bnd_s, bnd_s, bnd_s, bnd_s, u2_self, u2_ne (by omega), u2_ne (by omega), i4 c 3 (Or.inr (Or.inr (by decide))), i4 c 33 (Or.inr (Or.inr (by decide))), i4 c 4 (Or.inr (Or.inr (by decide)))]
      rw [bx_s] at i1 i2
      by_cases b : Z c 29 = 0
      · rw [if_pos b] at i1 i2
        refine ⟨((x, y), S1), ⟨hpre, i1, i2, fun d hd hdr => ?_, fun q j hq => i4 q j (hq.imp id (Or.imp (fun y => List.mem_cons_of_mem _ y) id))⟩, fun K => (e0 K).trans (if_pos b)⟩
        have z : d ≠ c := fun z => (bx_m.mp hd).2 (by rw [z]; exact b)
        exact i3 d hd (fun y => (List.mem_cons.mp y).elim z hdr)
      · rw [if_neg b] at i1 i2
        have hcb : c ∈ bx Z cs := bx_m.mpr ⟨hcin, b⟩
        have hTc : x + mxI y (Z c 3) = T0 c := by
          have := i2 c List.mem_cons_self
          rw [sbT, if_pos rfl] at this
          exact this
        refine ⟨((x + mxI y (Z c 3) + Z c 33, Z c 4), u2 S1 c 31 (x + mxI y (Z c 3))), ⟨hpre, i1, fun z hz => ?_, fun d hd hdr => ?_, fun q j hq => ?_⟩, fun K => (e0 K).trans (if_neg b)⟩
        · have := i2 z (List.mem_cons_of_mem _ hz)
          rw [sbT, if_neg (show ¬ z = c from fun y => hcr (by rw [← y]; exact (bx_m.mp hz).1))] at this
          exact this
        · show u2 S1 c 31 _ d 31 = _
          by_cases z : d = c
          · rw [z, u2_self]
            exact hTc
          · rw [u2_row z]
            exact i3 d hd (fun y => (List.mem_cons.mp y).elim z hdr)
        · show u2 S1 c 31 _ q j = _
          by_cases z : q = c
          · subst z
            rcases hq with y | y | y
            · exact absurd hcb y
            · exact absurd y hcr
            · rw [u2_ne (by omega)]
              exact i4 q j (Or.inr (Or.inr y))
          · rw [u2_row z]
            exact i4 q j (hq.imp id (Or.imp (fun y => List.mem_cons_of_mem _ y) id))) cs o ((x0, 0), Z) 1000 hc (by omega) ⟨⟨[], rfl⟩, eE.symm, fun z _ => by rw [eT], fun c hc hcr => absurd (bx_m.mp hc).1 hcr, fun _ _ _ => rfl⟩
  obtain ⟨⟨x, y⟩, Z'⟩ := s
  have i1' : x + y = E0 := i1
  have e1 := bind_so (e some)
  refine ⟨Z', ⟨fun c hc => i3 c hc (by intro z; cases z), fun q j hq => i4 q j (hq.imp id Or.inr)⟩, ?_⟩
  rw [← i1']
  exact e1
theorem kstR {w : WZ} {Z : MM} {cs : List Nat} {o : Option Nat} {x0 t : Int32} (hc : chn w o cs) (hn : cs.Nodup) (hl : cs.length ≤ 24) :
    ∃ Z' : MM, ((∀ c, c ∈ bx Z cs → Z' c 31 = srT t (fun c => Z c 3) (fun c => Z c 33) (fun c => Z c 4) (bx Z cs) x0 0 0 c) ∧ ∀ q j, (q ∉ bx Z cs ∨ j ≠ 31) → Z' q j = Z q j) ∧ k_stackRows_14 w t 1000 x0 0 0 o Z = some (srE t (fun c => Z c 3) (fun c => Z c 33) (fun c => Z c 4) (bx Z cs) x0 0 0, Z') := by
  obtain ⟨T0, eT⟩ : ∃ T0, T0 = srT t (fun c => Z c 3) (fun c => Z c 33) (fun c => Z c 4) (bx Z cs) x0 0 0 := ⟨_, rfl⟩
  obtain ⟨E0, eE⟩ : ∃ E0, E0 = srE t (fun c => Z c 3) (fun c => Z c 33) (fun c => Z c 4) (bx Z cs) x0 0 0 := ⟨_, rfl⟩
  rw [← eT, ← eE]
  obtain ⟨s, ⟨i0, i1, i2, i3, i4⟩, e⟩ := lpc (w := w) (σ := (Int32 × Int32 × Int32) × MM) (τ := Int32 × MM) (pr := fun s => (s.1.1 + s.1.2.1, s.2)) (α := Option (Int32 × MM)) (L := fun K fu o s => (k_stackRows_14 w t fu s.1.1 s.1.2.1 s.1.2.2 o s.2).bind K)
    (Inv := fun r s => (∃ pre, cs = pre ++ r) ∧ srE t (fun c => Z c 3) (fun c => Z c 33) (fun c => Z c 4) (bx Z r) s.1.1 s.1.2.1 s.1.2.2 = E0 ∧ (∀ z, z ∈ bx Z r → srT t (fun c => Z c 3) (fun c => Z c 33) (fun c => Z c 4) (bx Z r) s.1.1 s.1.2.1 s.1.2.2 z = T0 z) ∧ (∀ c, c ∈ bx Z cs → c ∉ r → s.2 c 31 = T0 c) ∧ ∀ q j, (q ∉ bx Z cs ∨ q ∈ r ∨ j ≠ 31) → s.2 q j = Z q j)
    (fun K fu s _ => rfl)
    (fun fu c r s hi => by
      obtain ⟨⟨x, y, k⟩, S1⟩ := s
      obtain ⟨⟨pre, i0⟩, i1, i2, i3, i4⟩ : (∃ pre, cs = pre ++ c :: r) ∧ srE t (fun c => Z c 3) (fun c => Z c 33) (fun c => Z c 4) (bx Z (c :: r)) x y k = E0 ∧ (∀ z, z ∈ bx Z (c :: r) → srT t (fun c => Z c 3) (fun c => Z c 33) (fun c => Z c 4) (bx Z (c :: r)) x y k z = T0 z) ∧ (∀ d, d ∈ bx Z cs → d ∉ c :: r → S1 d 31 = T0 d) ∧ ∀ q j, (q ∉ bx Z cs ∨ q ∈ c :: r ∨ j ≠ 31) → S1 q j = Z q j := hi
      obtain ⟨hcin, hcr, hpre⟩ := cr_in hn i0
      have e29 : S1 c 29 = Z c 29 := i4 c 29 (Or.inr (Or.inr (by decide)))
      have e3 : S1 c 3 = Z c 3 := i4 c 3 (Or.inr (Or.inr (by decide)))
      have e0 : ∀ K : Int32 × MM → Option (Int32 × MM), (k_stackRows_14 w t (fu + 1) x y k (some c) S1).bind K = if Z c 29 = 0 then (k_stackRows_14 w t fu x y k (wl w 199 c) S1).bind K else if k < t then (k_stackRows_14 w t fu x (mxI y (Z c 3 + Z c 33 + Z c 4)) (k + 1) (wl w 199 c) (u2 S1 c 31 (x + Z c 3))).bind K else (k_stackRows_14 w t fu (x + y) (mxI 0 (Z c 3 + Z c 33 + Z c 4)) (0 + 1) (wl w 199 c) (u2 S1 c 31 (x + y + Z c 3))).bind K := fun K => by
        rw [k_stackRows_14, oe_c, e29]
        by_cases b : Z c 29 = 0
        · rw [if_pos b, if_pos b, bnd_s]
        · rw [if_neg b, if_neg b]
          by_cases kt : k < t
          · rw [if_pos kt, if_pos kt, bnd_s, bnd_s, bnd_s, u2_ne (by omega), u2_ne (by omega), u2_ne (by omega), e3, i4 c 33 (Or.inr (Or.inr (by decide))), i4 c 4 (Or.inr (Or.inr (by decide)))]
          · rw [if_neg kt, if_neg kt, bnd_s, bnd_s, bnd_s, bnd_s, u2_ne (by omega), u2_ne (by omega), u2_ne (by omega), e3, i4 c 33 (Or.inr (Or.inr (by decide))), i4 c 4 (Or.inr (Or.inr (by decide)))]
      rw [bx_s] at i1 i2
      by_cases b : Z c 29 = 0
      · rw [if_pos b] at i1 i2
        refine ⟨((x, y, k), S1), ⟨hpre, i1, i2, fun d hd hdr => ?_, fun q j hq => i4 q j (hq.imp id (Or.imp (fun y => List.mem_cons_of_mem _ y) id))⟩, fun K => (e0 K).trans (if_pos b)⟩
        have z : d ≠ c := fun z => (bx_m.mp hd).2 (by rw [z]; exact b)
        exact i3 d hd (fun y => (List.mem_cons.mp y).elim z hdr)
      · rw [if_neg b] at i1 i2
        have hcb : c ∈ bx Z cs := bx_m.mpr ⟨hcin, b⟩
        have step : ∀ (x' y' k' tp : Int32), srE t (fun c => Z c 3) (fun c => Z c 33) (fun c => Z c 4) (bx Z r) x' y' k' = E0 → (∀ z, z ∈ bx Z r → srT t (fun c => Z c 3) (fun c => Z c 33) (fun c => Z c 4) (bx Z r) x' y' k' z = T0 z) → tp = T0 c →
            ((∃ pre, cs = pre ++ r) ∧ srE t (fun c => Z c 3) (fun c => Z c 33) (fun c => Z c 4) (bx Z r) x' y' k' = E0 ∧ (∀ z, z ∈ bx Z r → srT t (fun c => Z c 3) (fun c => Z c 33) (fun c => Z c 4) (bx Z r) x' y' k' z = T0 z) ∧ (∀ c', c' ∈ bx Z cs → c' ∉ r → u2 S1 c 31 tp c' 31 = T0 c') ∧ ∀ q j, (q ∉ bx Z cs ∨ q ∈ r ∨ j ≠ 31) → u2 S1 c 31 tp q j = Z q j) := by
          intro x' y' k' tp h1 h2 h3
          refine ⟨hpre, h1, h2, fun d hd hdr => ?_, fun q j hq => ?_⟩
          · by_cases z : d = c
            · rw [z, u2_self]
              exact h3
            · rw [u2_row z]
              exact i3 d hd (fun y => (List.mem_cons.mp y).elim z hdr)
          · by_cases z : q = c
            · subst z
              rcases hq with y | y | y
              · exact absurd hcb y
              · exact absurd y hcr
              · rw [u2_ne (by omega)]
                exact i4 q j (Or.inr (Or.inr y))
            · rw [u2_row z]
              exact i4 q j (hq.imp id (Or.imp (fun y => List.mem_cons_of_mem _ y) id))
        have hzc : ∀ z, z ∈ bx Z r → ¬ z = c := fun z hz y => hcr (by rw [← y]; exact (bx_m.mp hz).1)
        by_cases kt : k < t
        · rw [srE, if_pos kt] at i1
          refine ⟨((x, mxI y (Z c 3 + Z c 33 + Z c 4), k + 1), u2 S1 c 31 (x + Z c 3)), step _ _ _ _ i1 (fun z hz => ?_) ?_, fun K => (e0 K).trans ((if_neg b).trans (if_pos kt))⟩
          · have := i2 z (List.mem_cons_of_mem _ hz)
            rw [srT, if_pos kt, if_neg (hzc z hz)] at this
            exact this
          · have := i2 c List.mem_cons_self
            rw [srT, if_pos kt, if_pos rfl] at this
            exact this
        · rw [srE, if_neg kt] at i1
          refine ⟨((x + y, mxI 0 (Z c 3 + Z c 33 + Z c 4), 0 + 1), u2 S1 c 31 (x + y + Z c 3)), step _ _ _ _ i1 (fun z hz => ?_) ?_, fun K => (e0 K).trans ((if_neg b).trans (if_neg kt))⟩
          · have := i2 z (List.mem_cons_of_mem _ hz)
            rw [srT, if_neg kt, if_neg (hzc z hz)] at this
            exact this
          · have := i2 c List.mem_cons_self
            rw [srT, if_neg kt, if_pos rfl] at this
            exact this) cs o ((x0, 0, 0), Z) 1000 hc (by omega) ⟨⟨[], rfl⟩, eE.symm, fun z _ => by rw [eT], fun c hc hcr => absurd (bx_m.mp hc).1 hcr, fun _ _ _ => rfl⟩
  obtain ⟨⟨x, y, k⟩, Z'⟩ := s
  have i1' : x + y = E0 := i1
  have e1 := bind_so (e some)
  refine ⟨Z', ⟨fun c hc => i3 c hc (by intro z; cases z), fun q j hq => i4 q j (hq.imp id Or.inr)⟩, ?_⟩
  rw [← i1']
  exact e1
/-- lines, height, and the tops of the children within -/
def LEH0 (S Y : MM) (n p : Nat) : Prop := Y p 29 ≠ 0 → Y p 34 = zLines (S 8 p) (Y p 9) (Y p 32) ∧
  Y p 33 = (if Y p 1 = -2 then (if Y p 5 = 1 then srE 24 (fun c => Y c 3) (fun c => Y c 33) (fun c => Y c 4) (kdk S Y p n) (Y p 34 * Y p 9) 0 0 else if Y p 5 = 2 then srE (Y p 7) (fun c => Y c 3) (fun c => Y c 33) (fun c => Y c 4) (kdk S Y p n) (Y p 34 * Y p 9) 0 0
    else sbE (fun c => Y c 3) (fun c => Y c 33) (fun c => Y c 4) (kdk S Y p n) (Y p 34 * Y p 9) 0) else Y p 1) ∧
  ∀ c, c ∈ kdk S Y p n → Y c 31 = if Y p 5 = 1 then srT 24 (fun c => Y c 3) (fun c => Y c 33) (fun c => Y c 4) (kdk S Y p n) (Y p 34 * Y p 9) 0 0 c else if Y p 5 = 2 then srT (Y p 7) (fun c => Y c 3) (fun c => Y c 33) (fun c => Y c 4) (kdk S Y p n) (Y p 34 * Y p 9) 0 0 c
    else sbT (fun c => Y c 3) (fun c => Y c 33) (fun c => Y c 4) (kdk S Y p n) (Y p 34 * Y p 9) 0 c
theorem clHei {S : MM} {n p : Nat} {w : WZ} {Z : MM} (T : TS S n) (hW : WDo S n) (hp : p < n) (hE : wi w 195 p = S 8 p) (hc : chn w (wl w 200 p) (chl S n p)) :
    ∃ Z' : MM, k_findHeight w Z p = some Z' ∧ (∀ q j, ((q = p → j ≠ 33 ∧ j ≠ 34) ∧ (q ∈ kdk S Z p n → j ≠ 31)) → Z' q j = Z q j) ∧ LEH0 S Z' n p ∧ (Z p 29 = 0 → Z' = Z) := by
  have h24 := T.2.2.1
  have hn := chl_n (S := S) (n := n) (p := p)
  have hl : (chl S n p).length ≤ 24 := Nat.le_trans chl_l h24
  have hx := chl_x (p := p) T
  obtain ⟨wd, w1, w2⟩ := hW p hp
  unfold k_findHeight
  by_cases b : Z p 29 = 0
  · rw [if_pos b]
    exact ⟨Z, rfl, fun _ _ _ => rfl, fun z => absurd b z, fun _ => rfl⟩
  · rw [if_neg b, bnd_s, hE, if_pos (by rw [w2, tn_nI (by omega)]), bnd_s]
    obtain ⟨Z1, eZ1⟩ : ∃ Z1, Z1 = u2 Z p 34 (zLines (S 8 p) (Z p 9) (Z p 32)) := ⟨_, rfl⟩
    rw [← eZ1]
    have o1 : ∀ q j, (q = p → j ≠ 34) → Z1 q j = Z q j := fun q j h => by
      rw [eZ1, u2_ne (fun z => h z.1 z.2)]
    have s34 : Z1 p 34 = zLines (S 8 p) (Z p 9) (Z p 32) := by rw [eZ1, u2_self]
    have f5 : Z1 p 5 = Z p 5 := o1 p 5 (fun _ => by decide)
    have hpb : p ∉ bx Z1 (chl S n p) := fun z => hx (bx_m.mp z).1
    have kd1 : bx Z1 (chl S n p) = kdk S Z p n := by
      rw [kdk_bx]
      exact bx_c (fun c _ => o1 c 29 (fun _ => by decide))
    rw [bnd_s, bnd_s, f5]
    -- what holds of the end
    have fin : ∀ (e : Int32) (Z2 : MM), (∀ q j, (q ∉ bx Z1 (chl S n p) ∨ j ≠ 31) → Z2 q j = Z1 q j) →
        e = (if Z p 5 = 1 then srE 24 (fun c => Z1 c 3) (fun c => Z1 c 33) (fun c => Z1 c 4) (bx Z1 (chl S n p)) (Z1 p 34 * Z p 9) 0 0 else if Z p 5 = 2 then srE (Z1 p 7) (fun c => Z1 c 3) (fun c => Z1 c 33) (fun c => Z1 c 4) (bx Z1 (chl S n p)) (Z1 p 34 * Z p 9) 0 0 else sbE (fun c => Z1 c 3) (fun c => Z1 c 33) (fun c => Z1 c 4) (bx Z1 (chl S n p)) (Z1 p 34 * Z p 9) 0) →
        (∀ c, c ∈ bx Z1 (chl S n p) → Z2 c 31 = if Z p 5 = 1 then srT 24 (fun c => Z1 c 3) (fun c => Z1 c 33) (fun c => Z1 c 4) (bx Z1 (chl S n p)) (Z1 p 34 * Z p 9) 0 0 c else if Z p 5 = 2 then srT (Z1 p 7) (fun c => Z1 c 3) (fun c => Z1 c 33) (fun c => Z1 c 4) (bx Z1 (chl S n p)) (Z1 p 34 * Z p 9) 0 0 c else sbT (fun c => Z1 c 3) (fun c => Z1 c 33) (fun c => Z1 c 4) (bx Z1 (chl S n p)) (Z1 p 34 * Z p 9) 0 c) →
        ∃ Z' : MM, (bnd (Z2 p 1) fun p9 => bnd (if p9 = -2 then e else p9) fun p12 => bnd (u2 Z2 p 33 p12) fun Z13 => some Z13) = some Z' ∧ (∀ q j, ((q = p → j ≠ 33 ∧ j ≠ 34) ∧ (q ∈ kdk S Z p n → j ≠ 31)) → Z' q j = Z q j) ∧ LEH0 S Z' n p ∧ (Z p 29 = 0 → Z' = Z) := by
      intro e Z2 h1 h2 h3
      obtain ⟨Z3, eZ3⟩ : ∃ Z3, Z3 = u2 Z2 p 33 (if Z2 p 1 = -2 then e else Z2 p 1) := ⟨_, rfl⟩
      have o3 : ∀ q j, (q = p → j ≠ 33) → Z3 q j = Z2 q j := fun q j h => by
        rw [eZ3, u2_ne (fun z => h z.1 z.2)]
      have v : ∀ q j, j ≠ 31 → j ≠ 33 → Z3 q j = Z1 q j := fun q j a1 a2 => (o3 q j (fun _ => a2)).trans (h1 q j (Or.inr a1))
      have vp : ∀ j, j ≠ 33 → Z3 p j = Z1 p j := fun j a => (o3 p j (fun _ => a)).trans (h1 p j (Or.inl hpb))
      have kd3 : kdk S Z3 p n = bx Z1 (chl S n p) := by
        rw [kdk_bx]
        exact bx_c (fun c _ => v c 29 (by decide) (by decide))
      have hH : ∀ c, c ∈ bx Z1 (chl S n p) → Z3 c 33 = Z1 c 33 := fun c hcb => (o3 c 33 (fun z => absurd (z ▸ hcb) hpb)).trans (h1 c 33 (Or.inr (by decide)))
      have hA : ∀ c, c ∈ bx Z1 (chl S n p) → Z3 c 3 = Z1 c 3 := fun c _ => v c 3 (by decide) (by decide)
      have hB : ∀ c, c ∈ bx Z1 (chl S n p) → Z3 c 4 = Z1 c 4 := fun c _ => v c 4 (by decide) (by decide)
      have g1 := fun x y k (t : Int32) => sr_c (t := t) (bx Z1 (chl S n p)) (A := fun c => Z3 c 3) (A' := fun c => Z1 c 3) (H := fun c => Z3 c 33) (H' := fun c => Z1 c 33) (B := fun c => Z3 c 4) (B' := fun c => Z1 c 4) x y k hA hH hB
      have g2 := fun x y => sb_c (bx Z1 (chl S n p)) (A := fun c => Z3 c 3) (A' := fun c => Z1 c 3) (H := fun c => Z3 c 33) (H' := fun c => Z1 c 33) (B := fun c => Z3 c 4) (B' := fun c => Z1 c 4) x y hA hH hB
      refine ⟨Z3, by rw [eZ3]; rfl, fun q j hq => ?_, fun _ => ⟨?_, ?_, fun c hcb => ?_⟩, fun z => absurd z b⟩
      · rw [o3 q j (fun z => (hq.1 z).1), h1 q j (by
          by_cases z : q ∈ bx Z1 (chl S n p)
          · exact Or.inr (hq.2 (by rw [← kd1]; exact z))
          · exact Or.inl z), o1 q j (fun z => (hq.1 z).2)]
      · rw [vp 34 (by decide), vp 9 (by decide), vp 32 (by decide), s34, o1 p 9 (fun _ => by decide), o1 p 32 (fun _ => by decide)]
      · rw [kd3, (g1 _ _ _ _).1, (g1 _ _ _ _).1, (g2 _ _).1, vp 1 (by decide), vp 5 (by decide), f5, vp 7 (by decide), vp 34 (by decide), vp 9 (by decide), o1 p 9 (fun _ => by decide), ← h2, eZ3, u2_self, h1 p 1 (Or.inl hpb)]
      · rw [kd3] at hcb ⊢
        rw [(g1 _ _ _ _).2, (g1 _ _ _ _).2, (g2 _ _).2, vp 5 (by decide), f5, vp 7 (by decide), vp 34 (by decide), vp 9 (by decide), o1 p 9 (fun _ => by decide), o3 c 31 (fun _ => by decide)]
        exact h3 c hcb
    by_cases d1 : Z p 5 = 1
    · rw [if_pos d1]
      obtain ⟨Z2, ⟨r1, r2⟩, r3⟩ := kstR (Z := Z1) (x0 := Z1 p 34 * Z p 9) (t := 24) hc hn hl
      have er : k_stackRows w Z1 p (Z1 p 34 * Z p 9) 24 = some (srE 24 (fun c => Z1 c 3) (fun c => Z1 c 33) (fun c => Z1 c 4) (bx Z1 (chl S n p)) (Z1 p 34 * Z p 9) 0 0, Z2) := by
        unfold k_stackRows
        rw [bnd_s]
        exact r3
      rw [er]
      exact fin _ Z2 r2 (by rw [if_pos d1]) (fun c hcb => by rw [if_pos d1]; exact r1 c hcb)
    · rw [if_neg d1]
      by_cases d2 : Z p 5 = 2
      · rw [if_pos d2]
        obtain ⟨Z2, ⟨r1, r2⟩, r3⟩ := kstR (Z := Z1) (x0 := Z1 p 34 * Z p 9) (t := Z1 p 7) hc hn hl
        have er : k_stackRows w Z1 p (Z1 p 34 * Z p 9) (Z1 p 7) = some (srE (Z1 p 7) (fun c => Z1 c 3) (fun c => Z1 c 33) (fun c => Z1 c 4) (bx Z1 (chl S n p)) (Z1 p 34 * Z p 9) 0 0, Z2) := by
          unfold k_stackRows
          rw [bnd_s]
          exact r3
        rw [er]
        exact fin _ Z2 r2 (by rw [if_neg d1, if_pos d2]) (fun c hcb => by rw [if_neg d1, if_pos d2]; exact r1 c hcb)
      · rw [if_neg d2]
        obtain ⟨Z2, ⟨r1, r2⟩, r3⟩ := kstB (Z := Z1) (x0 := Z1 p 34 * Z p 9) hc hn hl
        have er : k_stackBlocks w Z1 p (Z1 p 34 * Z p 9) = some (sbE (fun c => Z1 c 3) (fun c => Z1 c 33) (fun c => Z1 c 4) (bx Z1 (chl S n p)) (Z1 p 34 * Z p 9) 0, Z2) := by
          unfold k_stackBlocks
          rw [bnd_s]
          exact r3
        rw [er]
        exact fin _ Z2 r2 (by rw [if_neg d1, if_neg d2]) (fun c hcb => by rw [if_neg d1, if_neg d2]; exact r1 c hcb)
/-- the tops of the children, by that of p -/
theorem clPla {S : MM} {n p : Nat} {w : WZ} {Z : MM} (T : TS S n) (hc : chn w (wl w 200 p) (chl S n p)) :
    ∃ Z' : MM, k_placeChildren w Z p = some Z' ∧ (∀ c, c ∈ kdk S Z p n → Z' c 31 = Z c 31 + Z p 31) ∧ ∀ q j, (q ∉ kdk S Z p n ∨ j ≠ 31) → Z' q j = Z q j := by
  have h24 := T.2.2.1
  have hn := chl_n (S := S) (n := n) (p := p)
  have hl : (chl S n p).length ≤ 24 := Nat.le_trans chl_l h24
  have hx := chl_x (p := p) T
  rw [kdk_bx]
  generalize chl S n p = cs at hc hn hl hx ⊢
  have hpb : p ∉ bx Z cs := fun z => hx (bx_m.mp z).1
  obtain ⟨s, ⟨i0, i1, i2⟩, e⟩ := lpc (w := w) (σ := MM) (τ := MM) (pr := id) (α := Option MM) (L := fun K fu o s => (k_placeChildren_5 w p fu o s).bind K)
    (Inv := fun r s => (∃ pre, cs = pre ++ r) ∧ (∀ c, c ∈ bx Z cs → c ∉ r → s c 31 = Z c 31 + Z p 31) ∧ ∀ q j, (q ∉ bx Z cs ∨ q ∈ r ∨ j ≠ 31) → s q j = Z q j)
    (fun K fu s _ => rfl)
    (fun fu c r s hi => by
      obtain ⟨⟨pre, i0⟩, i1, i2⟩ := hi
      obtain ⟨hcin, hcr, hpre⟩ := cr_in hn i0
      have e29 : s c 29 = Z c 29 := i2 c 29 (Or.inr (Or.inr (by decide)))
      have e0 : ∀ K : MM → Option MM, (k_placeChildren_5 w p (fu + 1) (some c) s).bind K = if Z c 29 = 0 then (k_placeChildren_5 w p fu (wl w 199 c) s).bind K else (k_placeChildren_5 w p fu (wl w 199 c) (u2 s c 31 (Z c 31 + Z p 31))).bind K := fun K => by
        rw [k_placeChildren_5, oe_c, e29]
        by_cases b : Z c 29 = 0
        · rw [if_pos b, if_pos b, bnd_s]
        · rw [if_neg b, if_neg b, bnd_s, bnd_s, i2 c 31 (Or.inr (Or.inl List.mem_cons_self)), i2 p 31 (Or.inl hpb)]
      by_cases b : Z c 29 = 0
      · refine ⟨s, ⟨hpre, fun d hd hdr => ?_, fun q j hq => i2 q j (hq.imp id (Or.imp (fun y => List.mem_cons_of_mem _ y) id))⟩, fun K => (e0 K).trans (if_pos b)⟩
        have z : d ≠ c := fun z => (bx_m.mp hd).2 (by rw [z]; exact b)
        exact i1 d hd (fun y => (List.mem_cons.mp y).elim z hdr)
      · have hcb : c ∈ bx Z cs := bx_m.mpr ⟨hcin, b⟩
        refine ⟨u2 s c 31 (Z c 31 + Z p 31), ⟨hpre, fun d hd hdr => ?_, fun q j hq => ?_⟩, fun K => (e0 K).trans (if_neg b)⟩
        · by_cases z : d = c
          · rw [z, u2_self]
          · rw [u2_row z]
            exact i1 d hd (fun y => (List.mem_cons.mp y).elim z hdr)
        · by_cases z : q = c
          · subst z
            rcases hq with y | y | y
            · exact absurd hcb y
            · exact absurd y hcr
            · rw [u2_ne (by omega)]
              exact i2 q j (Or.inr (Or.inr y))
          · rw [u2_row z]
            exact i2 q j (hq.imp id (Or.imp (fun y => List.mem_cons_of_mem _ y) id))) cs (wl w 200 p) Z 1000 hc (by omega) ⟨⟨[], rfl⟩, fun c hc hcr => absurd (bx_m.mp hc).1 hcr, fun _ _ _ => rfl⟩
  refine ⟨s, ?_, fun c hcb => i1 c hcb (by intro z; cases z), fun q j hq => i2 q j (hq.imp id Or.inr)⟩
  unfold k_placeChildren
  rw [bnd_s]
  exact bind_so (e some)
