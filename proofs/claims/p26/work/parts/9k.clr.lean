/-! ===== the class: a row shared ===== -/
theorem cr_in {cs pre r : List Nat} {c : Nat} (hn : cs.Nodup) (h : cs = pre ++ c :: r) : c ∈ cs ∧ c ∉ r ∧ ∃ pre', cs = pre' ++ r := by
  refine ⟨by rw [h]; exact List.mem_append_right _ List.mem_cons_self, ?_, pre ++ [c], by rw [h, List.append_assoc]; rfl⟩
  rw [h] at hn
  exact (List.nodup_cons.mp (List.nodup_append.mp hn).2.1).1
/-- the widths of their own, in a row -/
theorem krow5 {S : MM} {w : WZ} {Z : MM} {cs : List Nat} {o : Option Nat} (hc : chn w o cs) (hn : cs.Nodup) (hl : cs.length ≤ 24) (hE : ∀ c, c ∈ cs → wi w 195 c = S 8 c ∧ wi w 196 c = S 9 c ∧ nI (tn (S 8 c)) = S 8 c) :
    ∃ Z' : MM, ((∀ c, c ∈ bx Z cs → Z' c 32 = owY Z c (auY S Z c)) ∧ ∀ q j, (q ∉ bx Z cs ∨ j ≠ 32) → Z' q j = Z q j) ∧ ∀ K, k_measureRow_5 K w 1000 o Z = K Z' := by
  obtain ⟨s, ⟨i0, i1, i2⟩, e⟩ := lpc (w := w) (σ := MM) (τ := MM) (pr := id) (α := Option MM) (L := fun K fu o s => k_measureRow_5 K w fu o s)
    (Inv := fun r s => (∃ pre, cs = pre ++ r) ∧ (∀ c, c ∈ bx Z cs → c ∉ r → s c 32 = owY Z c (auY S Z c)) ∧ ∀ q j, (q ∉ bx Z cs ∨ q ∈ r ∨ j ≠ 32) → s q j = Z q j)
    (fun K fu s _ => rfl)
    (fun fu c r s hi => by
      obtain ⟨⟨pre, i0⟩, i1, i2⟩ := hi
      obtain ⟨hcin, hcr, hpre⟩ := cr_in hn i0
      have e29 : s c 29 = Z c 29 := i2 c 29 (Or.inr (Or.inr (by decide)))
      by_cases b : Z c 29 = 0
      · refine ⟨s, ⟨hpre, fun d hd hdr => ?_, fun q j hq => ?_⟩, fun K => ?_⟩
        · have z : d ≠ c := fun z => (bx_m.mp hd).2 (by rw [z]; exact b)
          exact i1 d hd (fun y => (List.mem_cons.mp y).elim z hdr)
        · exact i2 q j (hq.imp id (Or.imp (fun y => List.mem_cons_of_mem _ y) id))
        · show (if s c 29 = 0 then _ else _) = _
          rw [e29, if_pos b]
          rfl
      · have hcb : c ∈ bx Z cs := bx_m.mpr ⟨hcin, b⟩
        obtain ⟨w8, w9, w10⟩ := hE c hcin
        have eo : owY s c ((if S 9 c = 0 then zLongest (S 8 c) else 0) * s c 9) = owY Z c (auY S Z c) := by
          unfold owY auY
          rw [i2 c 2 (Or.inr (Or.inr (by decide))), i2 c 0 (Or.inr (Or.inr (by decide))), i2 c 9 (Or.inr (Or.inr (by decide)))]
        refine ⟨u2 s c 32 (owY Z c (auY S Z c)), ⟨hpre, fun d hd hdr => ?_, fun q j hq => ?_⟩, fun K => ?_⟩
        · by_cases z : d = c
          · rw [z, u2_self]
          · rw [u2_row z]
            exact i1 d hd (fun y => (List.mem_cons.mp y).elim z hdr)
        · by_cases z : q = c
          · subst z
            rcases hq with y | y | y
            · exact absurd hcb y
            · exact absurd y hcr
            · rw [u2_ne (by omega)]
              exact i2 q j (Or.inr (Or.inr y))
          · rw [u2_row z]
            exact i2 q j (hq.imp id (Or.imp (fun y => List.mem_cons_of_mem _ y) id))
        · show (if s c 29 = 0 then _ else (if (wi w 196 c = 0 → nI (tn (wi w 195 c)) = wi w 195 c) then bnd (if wi w 196 c = 0 then zLongest (wi w 195 c) else 0) fun p12 => (bnd (u2 s c 32 (k_ownWidth w s c (p12 * s c 9))) fun Z13 => bnd (wl w 199 c) fun p14 => k_measureRow_5 K w fu p14 Z13) else none)) = _
          rw [e29, if_neg b, w8, w9, if_pos (fun _ => w10), bnd_s, kow, eo, bnd_s, bnd_s]) cs o Z 1000 hc (by omega) ⟨⟨[], rfl⟩, fun c hc hcr => absurd (bx_m.mp hc).1 hcr, fun _ _ _ => rfl⟩
  exact ⟨s, ⟨fun c hc => i1 c hc (by intro z; cases z), fun q j hq => i2 q j (hq.imp id Or.inr)⟩, e⟩
/-- the lefts of a row -/
theorem krow102 {w : WZ} {Z : MM} {cs : List Nat} {o : Option Nat} {L0 : Int32} (hc : chn w o cs) (hn : cs.Nodup) (hl : cs.length ≤ 24) :
    ∃ Z' : MM, ((∀ c, c ∈ bx Z cs → Z' c 30 = rwL (fun c => Z c 32) (bx Z cs) L0 c) ∧ ∀ q j, (q ∉ bx Z cs ∨ j ≠ 30) → Z' q j = Z q j) ∧ k_measureRow_102 w 1000 L0 o Z = some Z' := by
  obtain ⟨R0, eR⟩ : ∃ R0, R0 = rwL (fun c => Z c 32) (bx Z cs) L0 := ⟨_, rfl⟩
  rw [← eR]
  obtain ⟨s, ⟨i0, i1, i2, i3⟩, e⟩ := lpc (w := w) (σ := Int32 × MM) (τ := MM) (pr := fun s => s.2) (α := Option MM) (L := fun K fu o s => (k_measureRow_102 w fu s.1 o s.2).bind K)
    (Inv := fun r s => (∃ pre, cs = pre ++ r) ∧ (∀ z, z ∈ bx Z r → rwL (fun c => Z c 32) (bx Z r) s.1 z = R0 z) ∧ (∀ c, c ∈ bx Z cs → c ∉ r → s.2 c 30 = R0 c) ∧ ∀ q j, (q ∉ bx Z cs ∨ q ∈ r ∨ j ≠ 30) → s.2 q j = Z q j)
    (fun K fu s _ => rfl)
    (fun fu c r s hi => by
      obtain ⟨x2, S1⟩ := s
      obtain ⟨⟨pre, i0⟩, i1, i2, i3⟩ : (∃ pre, cs = pre ++ c :: r) ∧ (∀ z, z ∈ bx Z (c :: r) → rwL (fun c => Z c 32) (bx Z (c :: r)) x2 z = R0 z) ∧ (∀ d, d ∈ bx Z cs → d ∉ c :: r → S1 d 30 = R0 d) ∧ ∀ q j, (q ∉ bx Z cs ∨ q ∈ c :: r ∨ j ≠ 30) → S1 q j = Z q j := hi
      obtain ⟨hcin, hcr, hpre⟩ := cr_in hn i0
      have e29 : S1 c 29 = Z c 29 := i3 c 29 (Or.inr (Or.inr (by decide)))
      rw [bx_s] at i1
      by_cases b : Z c 29 = 0
      · rw [if_pos b] at i1
        refine ⟨(x2, S1), ⟨hpre, i1, fun d hd hdr => ?_, fun q j hq => ?_⟩, fun K => ?_⟩
        · have z : d ≠ c := fun z => (bx_m.mp hd).2 (by rw [z]; exact b)
          exact i2 d hd (fun y => (List.mem_cons.mp y).elim z hdr)
        · exact i3 q j (hq.imp id (Or.imp (fun y => List.mem_cons_of_mem _ y) id))
        · show Option.bind (if S1 c 29 = 0 then _ else _) K = _
          rw [e29, if_pos b]
          rfl
      · rw [if_neg b] at i1
        have hcb : c ∈ bx Z cs := bx_m.mpr ⟨hcin, b⟩
        have hRc : x2 = R0 c := by
          have := i1 c List.mem_cons_self
          rw [rwL, if_pos rfl] at this
          exact this
        refine ⟨(x2 + Z c 32, u2 S1 c 30 x2), ⟨hpre, fun z hz => ?_, fun d hd hdr => ?_, fun q j hq => ?_⟩, fun K => ?_⟩
        · have := i1 z (List.mem_cons_of_mem _ hz)
          rw [rwL, if_neg (fun y => hcr (by rw [← y]; exact (bx_m.mp hz).1))] at this
          exact this
        · show u2 S1 c 30 x2 d 30 = _
          by_cases z : d = c
          · rw [z, u2_self]
            exact hRc
          · rw [u2_row z]
            exact i2 d hd (fun y => (List.mem_cons.mp y).elim z hdr)
        · show u2 S1 c 30 x2 q j = _
          by_cases z : q = c
          · subst z
            rcases hq with y | y | y
            · exact absurd hcb y
            · exact absurd y hcr
            · rw [u2_ne (by omega)]
              exact i3 q j (Or.inr (Or.inr y))
          · rw [u2_row z]
            exact i3 q j (hq.imp id (Or.imp (fun y => List.mem_cons_of_mem _ y) id))
        · show Option.bind (if S1 c 29 = 0 then _ else bnd (u2 S1 c 30 x2) fun Z35 => bnd (x2 + Z35 c 32) fun p36 => bnd (wl w 199 c) fun p37 => k_measureRow_102 w fu p36 p37 Z35) K = _
          rw [e29, if_neg b, bnd_s, u2_ne (by omega), i3 c 32 (Or.inr (Or.inr (by decide)))]
          rfl) cs o (L0, Z) 1000 hc (by omega) ⟨⟨[], rfl⟩, fun z _ => by rw [eR], fun c hc hcr => absurd (bx_m.mp hc).1 hcr, fun _ _ _ => rfl⟩
  obtain ⟨x2, Z'⟩ := s
  exact ⟨Z', ⟨fun c hc => i2 c hc (by intro z; cases z), fun q j hq => i3 q j (hq.imp id Or.inr)⟩, bind_so (e some)⟩
theorem ksum {w : WZ} {Z : MM} {K : Int32 → Int32 → Option (Int32 × MM)} : ∀ (cs : List Nat) (o : Option Nat) (fu : Nat) (x1 x2 : Int32), chn w o cs → cs.length + 1 ≤ fu → k_shareRest_15 K w Z fu x1 x2 o = K (shR (fun c => Z c 32) (bx Z cs) x1) (shU (fun c => Z c 36) (fun c => Z c 6) (bx Z cs) x2)
  | [], o, fu, x1, x2, hc, hf => by
    obtain ⟨fu, rfl⟩ : ∃ z, fu = z + 1 := ⟨fu - 1, by omega⟩
    have : o = none := hc
    subst this
    rfl
  | c :: cs, o, fu, x1, x2, hc, hf => by
    obtain ⟨fu, rfl⟩ : ∃ z, fu = z + 1 := ⟨fu - 1, by omega⟩
    obtain ⟨h1, h2⟩ := hc
    subst h1
    rw [List.length_cons] at hf
    rw [bx_s]
    show (if Z c 29 = 0 then bnd (wl w 199 c) (fun p7 => k_shareRest_15 K w Z fu x1 x2 p7) else bnd (x1 - Z c 32) fun p8 => bnd (if Z c 36 = 0 then Z c 6 else 0) fun p11 => bnd (x2 + p11) fun p12 => bnd (wl w 199 c) fun p13 => k_shareRest_15 K w Z fu p8 p12 p13) = _
    by_cases b : Z c 29 = 0
    · rw [if_pos b, if_pos b]
      exact ksum cs _ fu x1 x2 h2 (by omega)
    · rw [if_neg b, if_neg b]
      exact ksum cs _ fu _ _ h2 (by omega)
/-- the gains, rounded down -/
theorem kg8 {w : WZ} {Z : MM} {cs : List Nat} {o : Option Nat} {rest sum : Int32} (hc : chn w o cs) (hn : cs.Nodup) (hl : cs.length ≤ 24) (hs : ¬ sum ≤ 0) :
    ∃ Z' : MM, ((∀ c, c ∈ cs → Z' c 35 = if Z c 29 = 0 then 0 else shP rest sum (fun c => Z c 36) (fun c => Z c 6) c) ∧ ∀ q j, (q ∉ cs ∨ j ≠ 35) → Z' q j = Z q j) ∧
      ∀ K, k_findGains_8 K w rest sum 1000 rest o Z = K (shO rest sum (fun c => Z c 36) (fun c => Z c 6) (bx Z cs) rest) Z' := by
  have hs0 : ¬ sum = 0 := fun z => hs (by rw [z]; exact Int32.le_refl _)
  obtain ⟨E0, eE⟩ : ∃ E0, E0 = shO rest sum (fun c => Z c 36) (fun c => Z c 6) (bx Z cs) rest := ⟨_, rfl⟩
  rw [← eE]
  obtain ⟨s, ⟨i0, i1, i2, i3⟩, e⟩ := lpc (w := w) (σ := Int32 × MM) (τ := Int32 × MM) (pr := id) (α := Option MM) (L := fun K fu o s => k_findGains_8 (fun a b => K (a, b)) w rest sum fu s.1 o s.2)
    (Inv := fun r s => (∃ pre, cs = pre ++ r) ∧ shO rest sum (fun c => Z c 36) (fun c => Z c 6) (bx Z r) s.1 = E0 ∧ (∀ c, c ∈ cs → c ∉ r → s.2 c 35 = if Z c 29 = 0 then 0 else shP rest sum (fun c => Z c 36) (fun c => Z c 6) c) ∧ ∀ q j, (q ∉ cs ∨ q ∈ r ∨ j ≠ 35) → s.2 q j = Z q j)
    (fun K fu s _ => rfl)
    (fun fu c r s hi => by
      obtain ⟨x3, S1⟩ := s
      obtain ⟨⟨pre, i0⟩, i1, i2, i3⟩ : (∃ pre, cs = pre ++ c :: r) ∧ shO rest sum (fun c => Z c 36) (fun c => Z c 6) (bx Z (c :: r)) x3 = E0 ∧ (∀ d, d ∈ cs → d ∉ c :: r → S1 d 35 = if Z d 29 = 0 then 0 else shP rest sum (fun c => Z c 36) (fun c => Z c 6) d) ∧ ∀ q j, (q ∉ cs ∨ q ∈ c :: r ∨ j ≠ 35) → S1 q j = Z q j := hi
      obtain ⟨hcin, hcr, hpre⟩ := cr_in hn i0
      have e29 : S1 c 29 = Z c 29 := i3 c 29 (Or.inr (Or.inr (by decide)))
      have e36 : S1 c 36 = Z c 36 := i3 c 36 (Or.inr (Or.inr (by decide)))
      have e6 : S1 c 6 = Z c 6 := i3 c 6 (Or.inr (Or.inr (by decide)))
      obtain ⟨gv, egv⟩ : ∃ gv, gv = if Z c 29 = 0 then 0 else shP rest sum (fun c => Z c 36) (fun c => Z c 6) c := ⟨_, rfl⟩
      have hg : (if S1 c 29 = 0 then (0 : Int32) else if S1 c 36 = 0 then if sum ≤ 0 then 0 else rest * S1 c 6 / sum else 0) = gv := by
        rw [e29, e36, e6, egv]
        by_cases b : Z c 29 = 0
        · rw [if_pos b, if_pos b]
        · rw [if_neg b, if_neg b, if_neg hs]
          rfl
      refine ⟨(x3 - gv, u2 S1 c 35 gv), ⟨hpre, ?_, fun d hd hdr => ?_, fun q j hq => ?_⟩, fun K => ?_⟩
      · show shO rest sum _ _ (bx Z r) (x3 - gv) = E0
        rw [← i1, bx_s, egv]
        by_cases b : Z c 29 = 0
        · rw [if_pos b, if_pos b, Int32.sub_zero]
        · rw [if_neg b, if_neg b]
          rfl
      · show u2 S1 c 35 gv d 35 = _
        by_cases z : d = c
        · rw [z, u2_self, egv]
        · rw [u2_row z]
          exact i2 d hd (fun y => (List.mem_cons.mp y).elim z hdr)
      · show u2 S1 c 35 gv q j = _
        by_cases z : q = c
        · subst z
          rcases hq with y | y | y
          · exact absurd hcin y
          · exact absurd y hcr
          · rw [u2_ne (by omega)]
            exact i3 q j (Or.inr (Or.inr y))
        · rw [u2_row z]
          exact i3 q j (hq.imp id (Or.imp (fun y => List.mem_cons_of_mem _ y) id))
      · show (if (¬ (S1 c 29 = 0) → (S1 c 36 = 0 → (¬ (sum ≤ 0) → ¬ sum = 0))) then bnd (if S1 c 29 = 0 then (0 : Int32) else if S1 c 36 = 0 then if sum ≤ 0 then 0 else rest * S1 c 6 / sum else 0) fun p9 => bnd (u2 S1 c 35 p9) fun Z10 => (bnd (x3 - Z10 c 35) fun p11 => bnd (wl w 199 c) fun p12 => k_findGains_8 (fun a b => K (a, b)) w rest sum fu p11 p12 Z10) else none) = _
        rw [if_pos (fun _ _ _ => hs0), hg, bnd_s, bnd_s, u2_self]
        rfl) cs o (rest, Z) 1000 hc (by omega) ⟨⟨[], rfl⟩, by rw [eE], fun c hc hcr => absurd hc hcr, fun _ _ _ => rfl⟩
  obtain ⟨x3, Z'⟩ := s
  have i1' : x3 = E0 := i1
  subst i1'
  refine ⟨Z', ⟨fun c hc => i2 c hc (by intro z; cases z), fun q j hq => i3 q j (hq.imp id Or.inr)⟩, fun K => ?_⟩
  exact e (fun s => K s.1 s.2)
theorem shG_le {rest sum : Int32} {fz g : Nat → Int32} (hg : ∀ c, 0 ≤ g c) : ∀ (ks : List Nat) (m : Int32), m ≤ 0 → ∀ z, z ∈ ks → shG rest sum fz g ks m z = shP rest sum fz g z
  | [], m, _, z, h => by cases h
  | c :: cs, m, hm, z, h => by
    rw [shG]
    have hm2 : ¬ 0 < m := Int32.not_lt.mpr hm
    by_cases q : z = c
    · rw [if_pos q, if_pos hm, Int32.add_zero, q]
      unfold shP
      by_cases a : fz c = 0
      · rw [if_pos a]
        by_cases b : 0 < g c
        · rw [if_pos ⟨a, b⟩]
        · rw [if_neg (fun z => b z.2)]
          have : g c = 0 := by
            have h1 := hg c
            rw [i_le] at h1
            rw [i_lt] at b
            rw [i_eq]
            omega
          rw [this, Int32.mul_zero, Int32.zero_div]
      · rw [if_neg a, if_neg (fun z => a z.1)]
    · rw [if_neg q, if_neg (fun z => hm2 z.2.2)]
      exact shG_le hg cs m hm z ((List.mem_cons.mp h).resolve_left q)
/-- the gains, one more for the first ones -/
theorem kg84 {w : WZ} {Z : MM} {cs : List Nat} {o : Option Nat} {rest sum mo : Int32} {g : Nat → Int32} (hc : chn w o cs) (hn : cs.Nodup) (hl : cs.length ≤ 24) (hg0 : ∀ c, 0 ≤ g c) (hg : ∀ c, c ∈ bx Z cs → Z c 6 = g c) (h35 : ∀ c, c ∈ bx Z cs → Z c 35 = shP rest sum (fun c => Z c 36) g c) :
    ∃ Z' : MM, ((∀ c, c ∈ bx Z cs → Z' c 35 = shG rest sum (fun c => Z c 36) g (bx Z cs) mo c) ∧ ∀ q j, (q ∉ bx Z cs ∨ j ≠ 35) → Z' q j = Z q j) ∧ k_findGains_84 w 1000 mo o Z = some Z' := by
  obtain ⟨R0, eR⟩ : ∃ R0, R0 = shG rest sum (fun c => Z c 36) g (bx Z cs) mo := ⟨_, rfl⟩
  rw [← eR]
  have main : ∀ (r : List Nat) (o : Option Nat) (fu : Nat) (x3 : Int32) (S1 : MM), chn w o r → r.length + 1 ≤ fu → (∃ pre, cs = pre ++ r) → (∀ z, z ∈ bx Z r → shG rest sum (fun c => Z c 36) g (bx Z r) x3 z = R0 z) → (∀ c, c ∈ bx Z cs → c ∉ r → S1 c 35 = R0 c) → (∀ q j, (q ∉ bx Z cs ∨ q ∈ r ∨ j ≠ 35) → S1 q j = Z q j) →
      ∃ Z' : MM, k_findGains_84 w fu x3 o S1 = some Z' ∧ (∀ c, c ∈ bx Z cs → Z' c 35 = R0 c) ∧ ∀ q j, (q ∉ bx Z cs ∨ j ≠ 35) → Z' q j = Z q j := by
    intro r
    induction r with
    | nil =>
      intro o fu x3 S1 hc hf _ _ i2 i3
      obtain ⟨fu, rfl⟩ : ∃ z, fu = z + 1 := ⟨fu - 1, by omega⟩
      have : o = none := hc
      subst this
      exact ⟨S1, rfl, fun c hc => i2 c hc (by intro z; cases z), fun q j hq => i3 q j (hq.imp id Or.inr)⟩
    | cons c r ih =>
      intro o fu x3 S1 hc hf hp i1 i2 i3
      obtain ⟨fu, rfl⟩ : ∃ z, fu = z + 1 := ⟨fu - 1, by omega⟩
      obtain ⟨h1, h2⟩ := hc
      subst h1
      obtain ⟨pre, i0⟩ := hp
      rw [List.length_cons] at hf
      obtain ⟨hcin, hcr, hpre⟩ := cr_in hn i0
      have e29 : S1 c 29 = Z c 29 := i3 c 29 (Or.inr (Or.inr (by decide)))
      have e36 : S1 c 36 = Z c 36 := i3 c 36 (Or.inr (Or.inr (by decide)))
      have e6 : S1 c 6 = Z c 6 := i3 c 6 (Or.inr (Or.inr (by decide)))
      have e35 : S1 c 35 = Z c 35 := i3 c 35 (Or.inr (Or.inl List.mem_cons_self))
      have i1o := i1
      rw [bx_s] at i1
      show ∃ Z' : MM, (if x3 ≤ 0 then some S1 else (if S1 c 29 = 0 then bnd (wl w 199 c) (fun p28 => k_findGains_84 w fu x3 p28 S1) else (if S1 c 36 = 0 then (if S1 c 6 ≤ 0 then bnd (wl w 199 c) (fun p33 => k_findGains_84 w fu x3 p33 S1) else bnd (u2 S1 c 35 (S1 c 35 + 1)) fun Z34 => bnd (wl w 199 c) fun p35 => k_findGains_84 w fu (x3 + Int32.ofInt (-1)) p35 Z34) else bnd (wl w 199 c) (fun p31 => k_findGains_84 w fu x3 p31 S1)))) = some Z' ∧ _
      rw [e29, e36, e6, e35]
      by_cases hx : x3 ≤ 0
      · rw [if_pos hx]
        refine ⟨S1, rfl, fun d hd => ?_, fun q j hq => i3 q j (hq.imp id Or.inr)⟩
        by_cases hdr : d ∈ c :: r
        · rw [i3 d 35 (Or.inr (Or.inl hdr)), h35 d hd, ← i1o d (bx_m.mpr ⟨hdr, (bx_m.mp hd).2⟩), shG_le hg0 _ _ hx d (bx_m.mpr ⟨hdr, (bx_m.mp hd).2⟩)]
        · exact i2 d hd hdr
      · rw [if_neg hx]
        by_cases b : Z c 29 = 0
        · rw [if_pos b] at i1 ⊢
          refine ih _ fu x3 S1 h2 (by omega) hpre i1 (fun d hd hdr => ?_) (fun q j hq => i3 q j (hq.imp id (Or.imp (fun y => List.mem_cons_of_mem _ y) id)))
          have z : d ≠ c := fun z => (bx_m.mp hd).2 (by rw [z]; exact b)
          exact i2 d hd (fun y => (List.mem_cons.mp y).elim z hdr)
        · rw [if_neg b] at i1 ⊢
          have hcb : c ∈ bx Z cs := bx_m.mpr ⟨hcin, b⟩
          have hgc := hg c hcb
          have hRc : R0 c = if Z c 36 = 0 ∧ 0 < g c then rest * g c / sum + (if x3 ≤ 0 then 0 else 1) else 0 := by
            rw [← i1 c List.mem_cons_self, shG, if_pos rfl]
          have i1' : ∀ z, z ∈ bx Z r → shG rest sum (fun c => Z c 36) g (bx Z r) (if Z c 36 = 0 ∧ 0 < g c ∧ 0 < x3 then x3 - 1 else x3) z = R0 z := fun z hz => by
            rw [← i1 z (List.mem_cons_of_mem _ hz), shG, if_neg (show ¬ z = c from fun y => hcr (by rw [← y]; exact (bx_m.mp hz).1))]
          -- nothing more for c
          have stay : ¬ (Z c 36 = 0 ∧ 0 < g c) → ∃ Z' : MM, k_findGains_84 w fu x3 (wl w 199 c) S1 = some Z' ∧ (∀ c, c ∈ bx Z cs → Z' c 35 = R0 c) ∧ ∀ q j, (q ∉ bx Z cs ∨ j ≠ 35) → Z' q j = Z q j := fun hno => by
            rw [if_neg (fun z => hno ⟨z.1, z.2.1⟩)] at i1'
            refine ih _ fu x3 S1 h2 (by omega) hpre i1' (fun d hd hdr => ?_) (fun q j hq => i3 q j (hq.imp id (Or.imp (fun y => List.mem_cons_of_mem _ y) id)))
            by_cases z : d = c
            · rw [z, e35, h35 c hcb, hRc, if_neg hno]
              unfold shP
              by_cases a : Z c 36 = 0
              · rw [if_pos a]
                have : g c = 0 := by
                  have h1 := hg0 c
                  have h2 : ¬ 0 < g c := fun y => hno ⟨a, y⟩
                  rw [i_le] at h1
                  rw [i_lt] at h2
                  rw [i_eq]
                  omega
                rw [this, Int32.mul_zero, Int32.zero_div]
              · rw [if_neg a]
            · exact i2 d hd (fun y => (List.mem_cons.mp y).elim z hdr)
          by_cases a : Z c 36 = 0
          · rw [if_pos a, hgc]
            by_cases k : g c ≤ 0
            · rw [if_pos k]
              exact stay (fun z => absurd z.2 (Int32.not_lt.mpr k))
            · rw [if_neg k]
              have hk : 0 < g c := Int32.not_le.mp k
              have hx0 : 0 < x3 := Int32.not_le.mp hx
              rw [if_pos ⟨a, hk, hx0⟩] at i1'
              have em1 : x3 + Int32.ofInt (-1) = x3 - 1 := by
                rw [Int32.sub_eq_add_neg]
                rfl
              show ∃ Z' : MM, k_findGains_84 w fu (x3 + Int32.ofInt (-1)) (wl w 199 c) (u2 S1 c 35 (Z c 35 + 1)) = some Z' ∧ _
              rw [em1]
              refine ih _ fu (x3 - 1) (u2 S1 c 35 (Z c 35 + 1)) h2 (by omega) hpre i1' (fun d hd hdr => ?_) (fun q j hq => ?_)
              · by_cases z : d = c
                · rw [z, u2_self, h35 c hcb, hRc, if_pos ⟨a, hk⟩, if_neg hx]
                  unfold shP
                  rw [if_pos a]
                · rw [u2_row z]
                  exact i2 d hd (fun y => (List.mem_cons.mp y).elim z hdr)
              · by_cases z : q = c
                · subst z
                  rcases hq with y | y | y
                  · exact absurd hcb y
                  · exact absurd y hcr
                  · rw [u2_ne (by omega)]
                    exact i3 q j (Or.inr (Or.inr y))
                · rw [u2_row z]
                  exact i3 q j (hq.imp id (Or.imp (fun y => List.mem_cons_of_mem _ y) id))
          · rw [if_neg a]
            exact stay (fun z => a z.1)
  obtain ⟨Z', m1, m2, m3⟩ := main cs o 1000 mo Z hc (by omega) ⟨[], rfl⟩ (fun z _ => by rw [eR]) (fun c hc hcr => absurd (bx_m.mp hc).1 hcr) (fun _ _ _ => rfl)
  exact ⟨Z', ⟨m2, m3⟩, m1⟩
