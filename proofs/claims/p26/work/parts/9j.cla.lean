/-! ===== the class: loops over the children ===== -/
theorem lpc {σ τ α : Type} {w : WZ} {L : (τ → α) → Nat → Option Nat → σ → α} {pr : σ → τ} {Inv : List Nat → σ → Prop} (he : ∀ K fu s, Inv [] s → L K (fu + 1) none s = K (pr s))
    (hs : ∀ fu c cs s, Inv (c :: cs) s → ∃ s', Inv cs s' ∧ ∀ K, L K (fu + 1) (some c) s = L K fu (wl w 199 c) s') : ∀ (cs : List Nat) (o : Option Nat) (s : σ) (fu : Nat), chn w o cs → cs.length + 1 ≤ fu → Inv cs s → ∃ s', Inv [] s' ∧ ∀ K, L K fu o s = K (pr s')
  | [], o, s, fu, hc, hf, hi => by
    obtain ⟨fu, rfl⟩ : ∃ z, fu = z + 1 := ⟨fu - 1, by omega⟩
    have : o = none := hc
    subst this
    exact ⟨s, hi, fun K => he K fu s hi⟩
  | c :: cs, o, s, fu, hc, hf, hi => by
    obtain ⟨fu, rfl⟩ : ∃ z, fu = z + 1 := ⟨fu - 1, by omega⟩
    obtain ⟨h1, h2⟩ := hc
    subst h1
    obtain ⟨s', k1, k2⟩ := hs fu c cs s hi
    rw [List.length_cons] at hf
    obtain ⟨s2, k3, k4⟩ := lpc he hs cs (wl w 199 c) s' fu h2 (by omega) k1
    exact ⟨s2, k3, fun K => (k2 K).trans (k4 K)⟩
def bx (Z : MM) (cs : List Nat) : List Nat := cs.filter (fun c => decide (Z c 29 ≠ 0))
theorem bx_s {Z : MM} {c : Nat} {cs : List Nat} : bx Z (c :: cs) = if Z c 29 = 0 then bx Z cs else c :: bx Z cs := by
  unfold bx
  rw [List.filter_cons]
  by_cases q : Z c 29 = 0
  · rw [if_neg (fun z => (decide_eq_true_iff.mp z) q), if_pos q]
  · rw [if_pos (decide_eq_true_iff.mpr q), if_neg q]
theorem bx_m {Z : MM} {c : Nat} {cs : List Nat} : c ∈ bx Z cs ↔ c ∈ cs ∧ Z c 29 ≠ 0 := by
  unfold bx
  rw [List.mem_filter, decide_eq_true_iff]
theorem bx_c {Z Z' : MM} {cs : List Nat} (h : ∀ c, c ∈ cs → Z' c 29 = Z c 29) : bx Z' cs = bx Z cs := by
  unfold bx
  refine List.filter_congr (fun c hc => ?_)
  rw [h c hc]
theorem bx_n {Z : MM} {cs : List Nat} (h : cs.Nodup) : (bx Z cs).Nodup := List.Nodup.sublist List.filter_sublist h
theorem bx_l {Z : MM} {cs : List Nat} : (bx Z cs).length ≤ cs.length := List.length_filter_le _ _
theorem zam {Z : MM} {e : Nat} {a : Int32} : zAtMost Z e a = capm (Z e 2) a := by
  unfold zAtMost capm
  by_cases q : Z e 2 = -2
  · rw [if_pos q, if_pos q]
  · rw [if_neg q, if_neg q]
    by_cases y : Z e 2 ≤ a
    · rw [if_pos y]
      by_cases z : a ≤ Z e 2
      · rw [if_pos z]
        rw [i_le] at y z
        rw [i_eq]
        omega
      · rw [if_neg z]
    · rw [if_neg y]
      have z : a ≤ Z e 2 := by
        rw [i_le] at y ⊢
        omega
      rw [if_pos z]
theorem kow {w : WZ} {Z : MM} {e : Nat} {a : Int32} : k_ownWidth w Z e a = owY Z e a := by
  unfold k_ownWidth owY
  exact zam
theorem zB_1 {Z : MM} {e : Nat} {b : Int32} : zBegin Z e b e 29 = b ∧ ∀ j, 30 ≤ j → j ≤ 36 → zBegin Z e b e j = 0 := by
  unfold zBegin
  refine ⟨?_, fun j h1 h2 => ?_⟩
  · rw [u2_ne (by omega), u2_ne (by omega), u2_ne (by omega), u2_ne (by omega), u2_ne (by omega), u2_ne (by omega), u2_ne (by omega), u2_self]
  · have : j = 30 ∨ j = 31 ∨ j = 32 ∨ j = 33 ∨ j = 34 ∨ j = 35 ∨ j = 36 := by omega
    rcases this with rfl | rfl | rfl | rfl | rfl | rfl | rfl <;> (repeat (first | rw [u2_self] | rw [u2_ne (by omega)]))
theorem zB_2 {Z : MM} {e : Nat} {b : Int32} {q j : Nat} (h : q ≠ e ∨ j < 29 ∨ 36 < j) : zBegin Z e b q j = Z q j := by
  unfold zBegin
  rw [u2_ne (by omega), u2_ne (by omega), u2_ne (by omega), u2_ne (by omega), u2_ne (by omega), u2_ne (by omega), u2_ne (by omega), u2_ne (by omega)]
/-- the boxes begun -/
theorem kb10 {w : WZ} {x1 : Nat} {Z : MM} {cs : List Nat} {o : Option Nat} (hc : chn w o cs) (hn : cs.Nodup) (hx : x1 ∉ cs) (hl : cs.length ≤ 24) :
    ∃ Z' : MM, ((∀ c, c ∈ cs → Z' c 29 = (if Z x1 29 = 0 then 0 else if Z c 5 = 3 then 0 else 1) ∧ ∀ j, 30 ≤ j → j ≤ 36 → Z' c j = 0) ∧ ∀ q j, (q ∉ cs ∨ j < 29 ∨ 36 < j) → Z' q j = Z q j) ∧ ∀ K, k_measureChildren_10 K w x1 1000 o Z = K Z' := by
  obtain ⟨s, ⟨i0, i1, i2⟩, e⟩ := lpc (w := w) (σ := MM) (τ := MM) (pr := id) (α := Option MM) (L := fun K fu o s => k_measureChildren_10 K w x1 fu o s)
    (Inv := fun r s => (∃ pre, cs = pre ++ r) ∧ (∀ c, c ∈ cs → c ∉ r → s c 29 = (if Z x1 29 = 0 then 0 else if Z c 5 = 3 then 0 else 1) ∧ ∀ j, 30 ≤ j → j ≤ 36 → s c j = 0) ∧ ∀ q j, (q ∉ cs ∨ q ∈ r ∨ j < 29 ∨ 36 < j) → s q j = Z q j)
    (fun K fu s _ => rfl)
    (fun fu c r s hi => by
      obtain ⟨⟨pre, i0⟩, i1, i2⟩ := hi
      have hcin : c ∈ cs := by rw [i0]; exact List.mem_append_right _ List.mem_cons_self
      have hcr : c ∉ r := by
        have := hn
        rw [i0] at this
        exact (List.nodup_cons.mp (List.nodup_append.mp this).2.1).1
      have hxc : x1 ≠ c := fun z => hx (by rw [z]; exact hcin)
      have e1 : s x1 29 = Z x1 29 := i2 x1 29 (Or.inl hx)
      have e2 : s c 5 = Z c 5 := i2 c 5 (Or.inr (Or.inl List.mem_cons_self))
      refine ⟨zBegin s c (if Z x1 29 = 0 then 0 else if Z c 5 = 3 then 0 else 1), ⟨⟨pre ++ [c], by rw [i0, List.append_assoc]; rfl⟩, fun d hd hdr => ?_, fun q j hq => ?_⟩, fun K => ?_⟩
      · by_cases z : d = c
        · rw [z]
          exact zB_1
        · obtain ⟨a, b⟩ := i1 d hd (fun y => (List.mem_cons.mp y).elim z hdr)
          exact ⟨(zB_2 (Or.inl z)).trans a, fun j h1 h2 => (zB_2 (Or.inl z)).trans (b j h1 h2)⟩
      · by_cases z : q = c
        · subst z
          rcases hq with y | y | y
          · exact absurd hcin y
          · exact absurd y hcr
          · rw [zB_2 (Or.inr y)]
            exact i2 q j (Or.inr (Or.inr y))
        · rw [zB_2 (Or.inl z)]
          exact i2 q j (hq.imp id (Or.imp (fun y => List.mem_cons_of_mem _ y) id))
      · show oe (some c) _ _ = _
        show bnd (zBegin s c (if s x1 29 = 0 then 0 else if s c 5 = 3 then 0 else 1)) (fun Z6 => bnd (wl w 199 c) fun p7 => k_measureChildren_10 K w x1 fu p7 Z6) = _
        rw [e1, e2]
        rfl) cs o Z 1000 hc (by omega) ⟨⟨[], rfl⟩, fun c hc hcr => absurd hc hcr, fun _ _ _ => rfl⟩
  exact ⟨s, ⟨fun c hc => i1 c hc (by intro z; cases z), fun q j hq => i2 q j (hq.imp id Or.inr)⟩, e⟩
/-! blocks, grids -/
theorem kblk {w : WZ} {x0 : Nat} {Z : MM} {cs : List Nat} {o : Option Nat} (hc : chn w o cs) (hn : cs.Nodup) (hx : x0 ∉ cs) (hl : cs.length ≤ 24) :
    ∃ Z' : MM, ((∀ c, c ∈ bx Z cs → Z' c 32 = owY Z c (Z x0 32) ∧ Z' c 30 = Z x0 30) ∧ ∀ q j, (q ∉ bx Z cs ∨ (j ≠ 30 ∧ j ≠ 32)) → Z' q j = Z q j) ∧ k_measureBlock_5 w x0 1000 o Z = some Z' := by
  obtain ⟨s, ⟨i0, i1, i2⟩, e⟩ := lpc (w := w) (σ := MM) (τ := MM) (pr := id) (α := Option MM) (L := fun K fu o s => (k_measureBlock_5 w x0 fu o s).bind K)
    (Inv := fun r s => (∃ pre, cs = pre ++ r) ∧ (∀ c, c ∈ bx Z cs → c ∉ r → s c 32 = owY Z c (Z x0 32) ∧ s c 30 = Z x0 30) ∧ ∀ q j, (q ∉ bx Z cs ∨ q ∈ r ∨ (j ≠ 30 ∧ j ≠ 32)) → s q j = Z q j)
    (fun K fu s _ => rfl)
    (fun fu c r s hi => by
      obtain ⟨⟨pre, i0⟩, i1, i2⟩ := hi
      have hcin : c ∈ cs := by rw [i0]; exact List.mem_append_right _ List.mem_cons_self
      have hcr : c ∉ r := by
        have := hn
        rw [i0] at this
        exact (List.nodup_cons.mp (List.nodup_append.mp this).2.1).1
      have hxb : x0 ∉ bx Z cs := fun z => hx (bx_m.mp z).1
      have e29 : s c 29 = Z c 29 := i2 c 29 (Or.inr (Or.inr ⟨by decide, by decide⟩))
      by_cases b : Z c 29 = 0
      · refine ⟨s, ⟨⟨pre ++ [c], by rw [i0, List.append_assoc]; rfl⟩, fun d hd hdr => ?_, fun q j hq => ?_⟩, fun K => ?_⟩
        · have z : d ≠ c := fun z => (bx_m.mp hd).2 (by rw [z]; exact b)
          exact i1 d hd (fun y => (List.mem_cons.mp y).elim z hdr)
        · exact i2 q j (hq.imp id (Or.imp (fun y => List.mem_cons_of_mem _ y) id))
        · show Option.bind (if s c 29 = 0 then _ else _) K = _
          rw [e29, if_pos b]
          rfl
      · have hcb : c ∈ bx Z cs := bx_m.mpr ⟨hcin, b⟩
        have eo : owY s c (s x0 32) = owY Z c (Z x0 32) := by
          unfold owY
          rw [i2 c 2 (Or.inr (Or.inr ⟨by decide, by decide⟩)), i2 c 0 (Or.inr (Or.inr ⟨by decide, by decide⟩)), i2 x0 32 (Or.inl hxb)]
        have hxc : x0 ≠ c := fun z => hx (by rw [z]; exact hcin)
        refine ⟨u2 (u2 s c 32 (owY Z c (Z x0 32))) c 30 (Z x0 30), ⟨⟨pre ++ [c], by rw [i0, List.append_assoc]; rfl⟩, fun d hd hdr => ?_, fun q j hq => ?_⟩, fun K => ?_⟩
        · by_cases z : d = c
          · rw [z, u2_ne (by omega), u2_self, u2_self]
            exact ⟨rfl, rfl⟩
          · rw [u2_row z, u2_row z, u2_row z, u2_row z]
            exact i1 d hd (fun y => (List.mem_cons.mp y).elim z hdr)
        · by_cases z : q = c
          · subst z
            rcases hq with y | y | y
            · exact absurd hcb y
            · exact absurd y hcr
            · rw [u2_ne (by omega), u2_ne (by omega)]
              exact i2 q j (Or.inr (Or.inr y))
          · rw [u2_row z, u2_row z]
            exact i2 q j (hq.imp id (Or.imp (fun y => List.mem_cons_of_mem _ y) id))
        · show Option.bind (if s c 29 = 0 then _ else bnd (u2 s c 32 (k_ownWidth w s c (s x0 32))) fun Z5 => bnd (u2 Z5 c 30 (Z5 x0 30)) fun Z6 => bnd (wl w 199 c) fun p7 => k_measureBlock_5 w x0 fu p7 Z6) K = _
          rw [e29, if_neg b, kow, eo, bnd_s, u2_row hxc, i2 x0 30 (Or.inl hxb)]
          rfl) cs o Z 1000 hc (by omega) ⟨⟨[], rfl⟩, fun c hc hcr => absurd (bx_m.mp hc).1 hcr, fun _ _ _ => rfl⟩
  exact ⟨s, ⟨fun c hc => i1 c hc (by intro z; cases z), fun q j hq => i2 q j (hq.imp id Or.inr)⟩, bind_so (e some)⟩
theorem drop_k {ks l : List Nat} {i c : Nat} (h : ks.drop i = c :: l) : ks[i]? = some c ∧ ks.drop (i + 1) = l := by
  have h1 : ks[i]? = some c := by
    have := List.getElem?_drop (xs := ks) (i := i) (j := 0)
    rw [h, Nat.add_zero] at this
    exact this.symm
  refine ⟨h1, ?_⟩
  rw [dp_s h1] at h
  exact (List.cons.inj h).2
theorem kgrd {w : WZ} {x0 t : Nat} {Z : MM} {cs : List Nat} {o : Option Nat} {x2 x3 : Int32} (hc : chn w o cs) (hn : cs.Nodup) (hx : x0 ∉ cs) (hl : cs.length ≤ 24) (ht : 0 < t) (h7 : t < 7) :
    ∃ Z' : MM, ((∀ k c, (bx Z cs)[k]? = some c → Z' c 32 = x2 + (if x3 ≤ nI (k % t) then 0 else 1) ∧ Z' c 30 = Z x0 30 + nI (k % t) * x2 + zMin (nI (k % t)) x3) ∧ ∀ q j, (q ∉ bx Z cs ∨ (j ≠ 30 ∧ j ≠ 32)) → Z' q j = Z q j) ∧ k_measureGrid_45 w x0 (nI t) x2 x3 1000 0 o Z = some Z' := by
  obtain ⟨s, ⟨i0, i, i1, i2, i3, i4⟩, e⟩ := lpc (w := w) (σ := Int32 × MM) (τ := MM) (pr := fun s => s.2) (α := Option MM) (L := fun K fu o s => (k_measureGrid_45 w x0 (nI t) x2 x3 fu s.1 o s.2).bind K)
    (Inv := fun r s => (∃ pre, cs = pre ++ r) ∧ ∃ i, s.1 = nI (i % t) ∧ (bx Z cs).drop i = bx Z r ∧ (∀ k c, k < i → (bx Z cs)[k]? = some c → s.2 c 32 = x2 + (if x3 ≤ nI (k % t) then 0 else 1) ∧ s.2 c 30 = Z x0 30 + nI (k % t) * x2 + zMin (nI (k % t)) x3) ∧
      ∀ q j, (q ∉ bx Z cs ∨ q ∈ r ∨ (j ≠ 30 ∧ j ≠ 32)) → s.2 q j = Z q j)
    (fun K fu s _ => rfl)
    (fun fu c r s hi => by
      obtain ⟨x4, S1⟩ := s
      obtain ⟨⟨pre, i0⟩, i, i1, i2, i3, i4⟩ : (∃ pre, cs = pre ++ c :: r) ∧ ∃ i, x4 = nI (i % t) ∧ (bx Z cs).drop i = bx Z (c :: r) ∧ (∀ k c, k < i → (bx Z cs)[k]? = some c → S1 c 32 = x2 + (if x3 ≤ nI (k % t) then 0 else 1) ∧ S1 c 30 = Z x0 30 + nI (k % t) * x2 + zMin (nI (k % t)) x3) ∧
        ∀ q j, (q ∉ bx Z cs ∨ q ∈ c :: r ∨ (j ≠ 30 ∧ j ≠ 32)) → S1 q j = Z q j := hi
      subst i1
      have hcin : c ∈ cs := by rw [i0]; exact List.mem_append_right _ List.mem_cons_self
      have hcr : c ∉ r := by
        have := hn
        rw [i0] at this
        exact (List.nodup_cons.mp (List.nodup_append.mp this).2.1).1
      have hxb : x0 ∉ bx Z cs := fun z => hx (bx_m.mp z).1
      have e29 : S1 c 29 = Z c 29 := i4 c 29 (Or.inr (Or.inr ⟨by decide, by decide⟩))
      have hpre : ∃ pre', cs = pre' ++ r := ⟨pre ++ [c], by rw [i0, List.append_assoc]; rfl⟩
      rw [bx_s] at i2
      by_cases b : Z c 29 = 0
      · rw [if_pos b] at i2
        refine ⟨(nI (i % t), S1), ⟨hpre, i, rfl, i2, i3, fun q j hq => ?_⟩, fun K => ?_⟩
        · exact i4 q j (hq.imp id (Or.imp (fun y => List.mem_cons_of_mem _ y) id))
        · show Option.bind (if S1 c 29 = 0 then _ else _) K = _
          rw [e29, if_pos b]
          rfl
      · rw [if_neg b] at i2
        obtain ⟨k1, k2⟩ := drop_k i2
        have hcb : c ∈ bx Z cs := bx_m.mpr ⟨hcin, b⟩
        have hnb := bx_n (Z := Z) hn
        have hxc : x0 ≠ c := fun z => hx (by rw [z]; exact hcin)
        obtain ⟨-, -, -, g4, g5⟩ := gcl_s (i := i) ht h7
        have hlt := Nat.mod_lt i ht
        have hnext : (if nI t ≤ nI (i % t) + 1 then (0 : Int32) else nI (i % t) + 1) = nI ((i + 1) % t) := by
          rw [nI_1]
          by_cases z : i % t + 1 < t
          · rw [if_neg (nI_ge z (by omega)), g4 z]
          · rw [if_pos (nI_le (by omega) (by omega)), g5 (by omega)]
            rfl
        have hw : (if x3 ≤ nI (i % t) then x2 else x2 + 1) = x2 + (if x3 ≤ nI (i % t) then 0 else 1) := by
          by_cases z : x3 ≤ nI (i % t)
          · rw [if_pos z, if_pos z, Int32.add_zero]
          · rw [if_neg z, if_neg z]
        refine ⟨(nI ((i + 1) % t), u2 (u2 S1 c 32 (x2 + (if x3 ≤ nI (i % t) then 0 else 1))) c 30 (Z x0 30 + nI (i % t) * x2 + zMin (nI (i % t)) x3)), ⟨hpre, i + 1, rfl, k2, fun k d hk hd => ?_, fun q j hq => ?_⟩, fun K => ?_⟩
        · show u2 (u2 S1 c 32 _) c 30 _ d 32 = _ ∧ u2 (u2 S1 c 32 _) c 30 _ d 30 = _
          by_cases z : k = i
          · subst z
            rw [k1] at hd
            cases hd
            rw [u2_ne (by omega), u2_self, u2_self]
            exact ⟨rfl, rfl⟩
          · have hne : d ≠ c := fun y => by
              subst y
              exact z ((List.getElem?_inj (List.getElem?_eq_some_iff.mp hd).1 hnb).mp (hd.trans k1.symm))
            rw [u2_row hne, u2_row hne, u2_row hne, u2_row hne]
            exact i3 k d (by omega) hd
        · show u2 (u2 S1 c 32 _) c 30 _ q j = _
          by_cases z : q = c
          · subst z
            rcases hq with y | y | y
            · exact absurd hcb y
            · exact absurd y hcr
            · rw [u2_ne (by omega), u2_ne (by omega)]
              exact i4 q j (Or.inr (Or.inr y))
          · rw [u2_row z, u2_row z]
            exact i4 q j (hq.imp id (Or.imp (fun y => List.mem_cons_of_mem _ y) id))
        · show Option.bind (if S1 c 29 = 0 then _ else bnd (if x3 ≤ nI (i % t) then x2 else x2 + 1) fun p14 => bnd (u2 S1 c 32 p14) fun Z15 => bnd (u2 Z15 c 30 ((Z15 x0 30 + nI (i % t) * x2) + zMin (nI (i % t)) x3)) fun Z16 => bnd (if nI t ≤ nI (i % t) + 1 then (0 : Int32) else nI (i % t) + 1) fun p19 => bnd (wl w 199 c) fun p20 => k_measureGrid_45 w x0 (nI t) x2 x3 fu p19 p20 Z16) K = _
          rw [e29, if_neg b, hw, hnext, bnd_s, bnd_s, u2_row hxc, i4 x0 30 (Or.inl hxb)]
          rfl) cs o (0, Z) 1000 hc (by omega) ⟨⟨[], rfl⟩, 0, by rw [Nat.zero_mod]; rfl, rfl, fun k c hk => absurd hk (Nat.not_lt_zero k), fun _ _ _ => rfl⟩
  obtain ⟨x4, Z'⟩ := s
  have hdr : (bx Z cs).drop i = [] := i2
  have hle : (bx Z cs).length ≤ i := List.drop_eq_nil_iff.mp hdr
  refine ⟨Z', ⟨fun k c hk => i3 k c (by have := (List.getElem?_eq_some_iff.mp hk).1; omega) hk, fun q j hq => i4 q j (hq.imp id Or.inr)⟩, bind_so (e some)⟩
