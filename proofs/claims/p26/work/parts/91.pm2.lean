/-! ===== the model's functions: parts of selectors ===== -/
theorem placeOf_s {S : MM} {n : Nat} (h : TS S n) (x : Int32) : m_placeOf S x = some (match (List.range n).find? (fun k => S 4 k = x) with | some k => nI k | none => -1) := by
  have h24 := h.2.2.1
  unfold m_placeOf
  rw [← nI_0, placeOf_l h n 0 (by omega) 1000 (by omega), List.range_eq_range']
  rfl
/-- a part is like an element -/
def pl (S : MM) (q e : Nat) : Prop := (S 13 q = -1 ∨ S 13 q = S 6 e) ∧ S 7 e &&& S 14 q = S 14 q ∧ S 7 e &&& S 15 q = 0
theorem isPartOf_v {S : MM} {q e : Nat} (hq : q < 48) (he : e < 24) : (m_isPartOf S (nI q) (nI e) = 1 ↔ pl S q e) ∧ (m_isPartOf S (nI q) (nI e) = 0 ∨ m_isPartOf S (nI q) (nI e) = 1) := by
  refine ⟨?_, b_isPartOf⟩
  unfold m_isPartOf pl
  rw [tn_nI (by omega), tn_nI (by omega)]
  by_cases a : S 13 q = -1
  · rw [if_pos a]
    by_cases b : S 7 e &&& S 14 q = S 14 q
    · rw [if_pos b]
      by_cases c : S 7 e &&& S 15 q = 0
      · rw [if_pos c]
        exact ⟨fun _ => ⟨Or.inl a, b, c⟩, fun _ => rfl⟩
      · rw [if_neg c]
        exact ⟨fun z => absurd z (by decide), fun z => absurd z.2.2 c⟩
    · rw [if_neg b]
      exact ⟨fun z => absurd z (by decide), fun z => absurd z.2.1 b⟩
  · rw [if_neg a]
    by_cases a2 : S 13 q = S 6 e
    · rw [if_pos a2]
      by_cases b : S 7 e &&& S 14 q = S 14 q
      · rw [if_pos b]
        by_cases c : S 7 e &&& S 15 q = 0
        · rw [if_pos c]
          exact ⟨fun _ => ⟨Or.inr a2, b, c⟩, fun _ => rfl⟩
        · rw [if_neg c]
          exact ⟨fun z => absurd z (by decide), fun z => absurd z.2.2 c⟩
      · rw [if_neg b]
        exact ⟨fun z => absurd z (by decide), fun z => absurd z.2.1 b⟩
    · rw [if_neg a2]
      exact ⟨fun z => absurd z (by decide), fun z => (z.1.elim a a2).elim⟩
theorem isPartOf_g {S : MM} {q e : Nat} (hq : q < 48) (he : e < 24) : m_isPartOf_g S (nI q) (nI e) := ⟨ix_nI hq (by omega), fun _ => ix_nI he (by omega), fun _ => ix_nI he (by omega)⟩
/-- the sibling right ahead -/
def ahS (S : MM) (e : Nat) : Nat → Option Nat
  | 0 => none
  | k + 1 => if S 5 k = S 5 e then some k else ahS S e k
theorem ahS_lt {S : MM} {e f : Nat} : ∀ {k}, ahS S e k = some f → f < k
  | 0, h => by cases h
  | k + 1, h => by
    unfold ahS at h
    by_cases q : S 5 k = S 5 e
    · rw [if_pos q] at h
      cases h
      omega
    · rw [if_neg q] at h
      have := ahS_lt h
      omega
/-- an element may be fitted by a part, by the way from another -/
def ldS (S : MM) (way : Int32) (e f : Nat) : Prop := if way = 0 then par S e = some f else if way = 1 then e ≠ f ∧ f ∈ ach S 25 e else ahS S e e = some f
theorem leads_l {S : MM} {K : Int32 → Option Int32} {e : Nat} (he : e < 24) : ∀ (m f : Nat), f + m = e → ∀ fu, m + 1 ≤ fu → m_leads_51 K S (nI e) fu (eo (ahS S e f)) (nI f) = K (eo (ahS S e e)) := by
  intro m
  induction m with
  | zero =>
    intro f hf fu hfu
    obtain ⟨fu, rfl⟩ : ∃ z, fu = z + 1 := ⟨fu - 1, by omega⟩
    have : f = e := by omega
    subst this
    rw [m_leads_51, if_pos (nI_le (Nat.le_refl _) (by omega))]
  | succ m ih =>
    intro f hf fu hfu
    obtain ⟨fu, rfl⟩ : ∃ z, fu = z + 1 := ⟨fu - 1, by omega⟩
    rw [m_leads_51, if_neg (nI_ge (by omega) (by omega)), if_pos (ix_nI (by omega) (by omega)), if_pos (ix_nI (by omega) (by omega)), tn_nI (by omega), tn_nI (by omega)]
    have ih' := ih (f + 1) (by omega) fu (by omega)
    have e1 : (if S 5 f = S 5 e then nI f else eo (ahS S e f)) = eo (ahS S e (f + 1)) := by
      show _ = eo (if S 5 f = S 5 e then some f else ahS S e f)
      by_cases q : S 5 f = S 5 e
      · rw [if_pos q, if_pos q]
        rfl
      · rw [if_neg q, if_neg q]
    show m_leads_51 K S (nI e) fu (if S 5 f = S 5 e then nI f else eo (ahS S e f)) (nI f + 1) = _
    rw [e1, nI_1]
    exact ih'
theorem par_iff {S : MM} {n e f : Nat} (h : TS S n) (he : e < n) (hf : f < 2 ^ 31) : S 5 e = nI f ↔ par S e = some f := by
  by_cases e0 : e = 0
  · subst e0
    rw [par_0 h, h.2.2.2.1]
    exact ⟨fun z => absurd z.symm (nI_ne1 hf), fun z => nomatch z⟩
  · obtain ⟨q, q1, q2, q3⟩ := par_s h (by omega) he
    have := h.2.2.1
    rw [q3, q2, nI_eq (by omega) hf]
    exact ⟨fun z => by rw [z], fun z => Option.some.inj z⟩
theorem leads_s {S : MM} {n e f : Nat} {way : Int32} (h : TS S n) (he : e < n) (hf : f < n) : ∃ v : Int32, m_leads S way (nI e) (nI f) = some v ∧ (v = 1 ↔ ldS S way e f) ∧ (v = 0 ∨ v = 1) := by
  have h24 := h.2.2.1
  unfold m_leads ldS
  by_cases w0 : way = 0
  · rw [if_pos w0, if_pos w0, if_pos (ix_nI (by omega) (by omega)), tn_nI (by omega)]
    by_cases q : S 5 e = nI f
    · rw [if_pos q]
      exact ⟨1, rfl, ⟨fun _ => (par_iff h he (by omega)).mp q, fun _ => rfl⟩, Or.inr rfl⟩
    · rw [if_neg q]
      exact ⟨0, rfl, ⟨fun z => absurd z (by decide), fun z => absurd ((par_iff h he (by omega)).mpr z) q⟩, Or.inl rfl⟩
  · rw [if_neg w0, if_neg w0]
    by_cases w1 : way = 1
    · rw [if_pos w1, if_pos w1]
      by_cases q : e = f
      · subst q
        rw [if_pos rfl]
        exact ⟨0, rfl, ⟨fun z => absurd z (by decide), fun z => absurd rfl z.1⟩, Or.inl rfl⟩
      · rw [if_neg (fun z => q ((nI_eq (by omega) (by omega)).mp z)), isBelow_s h he (by omega)]
        by_cases y : f ∈ ach S 25 e
        · rw [if_pos y]
          exact ⟨1, rfl, ⟨fun _ => ⟨q, y⟩, fun _ => rfl⟩, Or.inr rfl⟩
        · rw [if_neg y]
          exact ⟨0, rfl, ⟨fun z => absurd z (by decide), fun z => absurd z.2 y⟩, Or.inl rfl⟩
    · rw [if_neg w1, if_neg w1]
      have l0 := leads_l (S := S) (K := fun p19 => some (if p19 = ((-1) : Int32) then (0 : Int32) else if p19 = nI f then (1 : Int32) else (0 : Int32))) (e := e) (by omega) e 0 (by omega) 1000 (by omega)
      rw [nI_0] at l0
      have l1 : m_leads_51 (fun p19 => some (if p19 = ((-1) : Int32) then (0 : Int32) else if p19 = nI f then (1 : Int32) else (0 : Int32))) S (nI e) 1000 ((-1) : Int32) 0 = _ := l0
      rw [l1]
      cases q : ahS S e e with
      | none => exact ⟨0, rfl, ⟨fun z => absurd z (by decide), fun z => nomatch z⟩, Or.inl rfl⟩
      | some g =>
        have hg := ahS_lt q
        show ∃ v : Int32, some (if nI g = ((-1) : Int32) then (0 : Int32) else if nI g = nI f then (1 : Int32) else (0 : Int32)) = some v ∧ _
        rw [if_neg (nI_ne1 (by omega))]
        by_cases y : g = f
        · subst y
          rw [if_pos rfl]
          exact ⟨1, rfl, ⟨fun _ => rfl, fun _ => rfl⟩, Or.inr rfl⟩
        · rw [if_neg (fun z => y ((nI_eq (by omega) (by omega)).mp z))]
          exact ⟨0, rfl, ⟨fun z => absurd z (by decide), fun z => absurd (Option.some.inj z) y⟩, Or.inl rfl⟩
