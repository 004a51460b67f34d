/-! ===== the model's call remove ===== -/
theorem cn_s {P : Nat → Bool} {k : Nat} : cn P (k + 1) = cn P k + if P k = true then 1 else 0 := rfl
theorem cn_flt {P : Nat → Bool} : ∀ n, ((List.range n).filter P).length = cn P n
  | 0 => rfl
  | n + 1 => by
    rw [List.range_succ, List.filter_append, List.length_append, cn_flt n, cn_s, List.filter_cons]
    by_cases q : P n = true
    · rw [if_pos q, if_pos q]
      rfl
    · rw [if_neg q, if_neg q]
      rfl
theorem flt_at {P : Nat → Bool} : ∀ {n e : Nat}, e < n → P e = true → ((List.range n).filter P)[cn P e]? = some e
  | 0, e, h, _ => absurd h (Nat.not_lt_zero e)
  | n + 1, e, h, hp => by
    rw [List.range_succ, List.filter_append]
    by_cases q : e < n
    · have h1 := flt_at (P := P) q hp
      have h2 : cn P e < ((List.range n).filter P).length := by
        rcases Nat.lt_or_ge (cn P e) ((List.range n).filter P).length with z | z
        · exact z
        · rw [List.getElem?_eq_none z] at h1
          cases h1
      rw [List.getElem?_append_left h2]
      exact h1
    · have : e = n := by omega
      subst this
      rw [List.getElem?_append_right (by rw [cn_flt]; exact Nat.le_refl _), cn_flt, Nat.sub_self, List.filter_cons, if_pos hp]
      rfl
theorem cn_lt {P : Nat → Bool} : ∀ {n e : Nat}, e < n → P e = true → cn P e < cn P n
  | 0, e, h, _ => absurd h (Nat.not_lt_zero e)
  | n + 1, e, h, hp => by
    rw [cn_s]
    by_cases q : e < n
    · have := cn_lt (P := P) q hp
      omega
    · have : e = n := by omega
      subst this
      rw [if_pos hp]
      omega
theorem cn_inj {P : Nat → Bool} {e f : Nat} (he : P e = true) (hf : P f = true) (h : cn P e = cn P f) : e = f := by
  rcases Nat.lt_trichotomy e f with q | q | q
  · have := cn_lt q he
    omega
  · exact q
  · have := cn_lt q hf
    omega
theorem cn_at {P : Nat → Bool} : ∀ {n i e : Nat}, ((List.range n).filter P)[i]? = some e → e < n ∧ P e = true ∧ cn P e = i
  | 0, i, e, h => by cases h
  | n + 1, i, e, h => by
    rw [List.range_succ, List.filter_append] at h
    by_cases q : i < ((List.range n).filter P).length
    · rw [List.getElem?_append_left q] at h
      obtain ⟨a, b, c⟩ := cn_at h
      exact ⟨by omega, b, c⟩
    · rw [List.getElem?_append_right (by omega), List.filter_cons] at h
      by_cases z : P n = true
      · rw [if_pos z] at h
        have h0 : i - ((List.range n).filter P).length = 0 := by
          rcases Nat.eq_zero_or_pos (i - ((List.range n).filter P).length) with y | y
          · exact y
          · rw [List.getElem?_eq_none (by
              show 1 ≤ _
              exact y)] at h
            cases h
        rw [h0] at h
        have : e = n := by
          cases h
          rfl
        subst this
        rw [cn_flt] at q h0
        exact ⟨by omega, z, by omega⟩
      · rw [if_neg z] at h
        cases h
theorem cn_not {P : Nat → Bool} : ∀ n, cn P n + cn (fun e => !(P e)) n = n
  | 0 => rfl
  | n + 1 => by
    have := cn_not (P := P) n
    rw [cn_s, cn_s]
    cases P n
    · simp only [Bool.not_false, if_pos, Bool.false_eq_true, if_false]
      omega
    · simp only [Bool.not_true, if_pos, Bool.false_eq_true, if_false]
      omega
/-- those that go, those that stay, and their new places -/
def blo (S : MM) (p e : Nat) : Bool := decide (p ∈ ach S 25 e)
def stay (S : MM) (p e : Nat) : Bool := !(blo S p e)
def kpl (S : MM) (n p : Nat) : List Nat := (List.range n).filter (stay S p)
/-- what is told after a removal -/
def RMV (S T : MM) (n p : Nat) : Prop := (∀ k, 1 ≤ k → k ≤ 22 → k ≠ 3 → ¬ (4 ≤ k ∧ k ≤ 9) → T k = S k) ∧ T 3 0 = nI (kpl S n p).length ∧
  ∀ i e, (kpl S n p)[i]? = some e → T 4 i = S 4 e ∧ T 5 i = (if S 5 e = -1 then -1 else nI (cn (stay S p) (tn (S 5 e)))) ∧ T 6 i = S 6 e ∧ T 7 i = S 7 e ∧ T 8 i = S 8 e ∧ T 9 i = S 9 e
theorem rm49 {S0 : MM} {n p : Nat} {K : Int32 → MM → Option (Int32 × MM)} (h : TS S0 n) (hp : p < n) : ∃ S' : MM, m_remove_49 K (nI p) 1000 0 0 S0 = K (nI (cn (blo S0 p) n)) S' ∧ (∀ e, e < n → S' 35 e = if blo S0 p e = true then 1 else 0) ∧ ∀ k, k ≠ 35 → S' k = S0 k := by
  have h24 := h.2.2.1
  obtain ⟨s, ⟨i1, i2, i3⟩, e1⟩ := lp_0 (σ := Int32 × MM) (α := Option (Int32 × MM)) (L := fun K fu k s => m_remove_49 (fun a b => K (a, b)) (nI p) fu s.1 (nI k) s.2) (n := n)
    (Inv := fun k s => s.1 = nI (cn (blo S0 p) k) ∧ (∀ e, e < k → s.2 35 e = if blo S0 p e = true then 1 else 0) ∧ ∀ k, k ≠ 35 → s.2 k = S0 k)
    (fun K fu s hi => by
      show m_remove_49 (fun a b => K (a, b)) (nI p) (fu + 1) s.1 (nI n) s.2 = K s
      rw [m_remove_49, hi.2.2 3 (by decide), h.1, if_pos (Int32.le_refl _)])
    (fun fu k s hk hi => by
      obtain ⟨x, S⟩ := s
      obtain ⟨j1, j2, j3⟩ : x = nI (cn (blo S0 p) k) ∧ (∀ e, e < k → S 35 e = if blo S0 p e = true then 1 else 0) ∧ (∀ k, k ≠ 35 → S k = S0 k) := hi
      have g : TG S0 S := fun i _ h2 => j3 i (by omega)
      have eb : m_isBelow S (nI k) (nI p) = some (if blo S0 p k = true then 1 else 0) := by
        rw [isBelow_s (TS_c g h) hk (by omega), ach_c g]
        unfold blo
        simp only [decide_eq_true_eq]
      refine ⟨(nI (cn (blo S0 p) (k + 1)), u2 S 35 k (if blo S0 p k = true then 1 else 0)), ⟨rfl, fun e he => ?_, fun i hi => ?_⟩, fun K => ?_⟩
      · show u2 S 35 k _ 35 e = _
        by_cases q : e = k
        · rw [q, u2_self]
        · rw [u2_ne (fun z => q z.2)]
          exact j2 e (by omega)
      · show u2 S 35 k _ i = _
        funext j
        rw [u2_row hi, j3 i hi]
      · show m_remove_49 (fun a b => K (a, b)) (nI p) (fu + 1) x (nI k) S = m_remove_49 (fun a b => K (a, b)) (nI p) fu (nI (cn (blo S0 p) k + if blo S0 p k = true then 1 else 0)) (nI (k + 1)) (u2 S 35 k (if blo S0 p k = true then 1 else 0))
        rw [m_remove_49, j3 3 (by decide), h.1, if_neg (nI_ge hk (by omega)), eb, bd_s, if_pos (ix_nI (by omega) (by omega)), tn_nI (by omega), j1, ← nI_add]
        cases hb : blo S0 p k with
        | true =>
          rw [if_pos rfl, if_pos rfl, if_pos (Or.inr rfl), bnd_s, u2_self, if_neg (show ¬ (1 : Int32) = 0 by decide), bnd_s, bnd_s, nI_1 k]
          rfl
        | false =>
          rw [if_neg (show ¬ false = true from fun z => Bool.noConfusion z), if_neg (show ¬ false = true from fun z => Bool.noConfusion z), if_pos (Or.inl rfl), bnd_s, u2_self, if_pos rfl, bnd_s, bnd_s, nI_1 k]
          rfl)
    (fu := 1000) (s := (0, S0)) (by omega) ⟨rfl, fun e he => absurd he (Nat.not_lt_zero e), fun _ _ => rfl⟩
  rw [nI_0] at e1
  refine ⟨s.2, ?_, i2, i3⟩
  rw [← i1]
  exact e1 (fun s => K s.1 s.2)
theorem rm98 {S0 : MM} {n p : Nat} {b : Nat → Bool} {K : Int32 → MM → Option (Int32 × MM)} (h3 : S0 3 0 = nI n) (h24 : n ≤ 24) (h35 : ∀ e, e < n → S0 35 e = if b e = true then 1 else 0) : ∃ S' : MM, m_remove_98 K 1000 0 0 S0 = K (nI (cn (fun e => !(b e)) n)) S' ∧ (∀ e, e < n → S' 34 e = nI (cn (fun e => !(b e)) e)) ∧ ∀ k, k ≠ 34 → S' k = S0 k := by
  obtain ⟨s, ⟨i1, i2, i3⟩, e1⟩ := lp_0 (σ := Int32 × MM) (α := Option (Int32 × MM)) (L := fun K fu k s => m_remove_98 (fun a b => K (a, b)) fu s.1 (nI k) s.2) (n := n)
    (Inv := fun k s => s.1 = nI (cn (fun e => !(b e)) k) ∧ (∀ e, e < k → s.2 34 e = nI (cn (fun e => !(b e)) e)) ∧ ∀ k, k ≠ 34 → s.2 k = S0 k)
    (fun K fu s hi => by
      show m_remove_98 (fun a b => K (a, b)) (fu + 1) s.1 (nI n) s.2 = K s
      rw [m_remove_98, hi.2.2 3 (by decide), h3, if_pos (Int32.le_refl _)])
    (fun fu k s hk hi => by
      obtain ⟨x, S⟩ := s
      obtain ⟨j1, j2, j3⟩ : x = nI (cn (fun e => !(b e)) k) ∧ (∀ e, e < k → S 34 e = nI (cn (fun e => !(b e)) e)) ∧ (∀ k, k ≠ 34 → S k = S0 k) := hi
      refine ⟨(nI (cn (fun e => !(b e)) (k + 1)), u2 S 34 k x), ⟨rfl, fun e he => ?_, fun i hi => ?_⟩, fun K => ?_⟩
      · show u2 S 34 k x 34 e = _
        by_cases q : e = k
        · rw [q, u2_self, j1]
        · rw [u2_ne (fun z => q z.2)]
          exact j2 e (by omega)
      · show u2 S 34 k x i = _
        funext j
        rw [u2_row hi, j3 i hi]
      · show m_remove_98 (fun a b => K (a, b)) (fu + 1) x (nI k) S = m_remove_98 (fun a b => K (a, b)) fu (nI (cn (fun e => !(b e)) k + if (!(b k)) = true then 1 else 0)) (nI (k + 1)) (u2 S 34 k x)
        rw [m_remove_98, j3 3 (by decide), h3, if_neg (nI_ge hk (by omega)), if_pos (ix_nI (by omega) (by omega)), tn_nI (by omega), bnd_s, u2_row (by decide), j3 35 (by decide), h35 k hk, ← nI_add, ← j1]
        cases b k with
        | true =>
          rw [if_pos rfl, if_neg (show ¬ (1 : Int32) = 0 by decide), bnd_s, bnd_s, nI_1 k]
          rfl
        | false =>
          rw [if_neg (show ¬ false = true from fun z => Bool.noConfusion z), if_pos rfl, bnd_s, bnd_s, nI_1 k]
          rfl)
    (fu := 1000) (s := (0, S0)) (by omega) ⟨rfl, fun e he => absurd he (Nat.not_lt_zero e), fun _ _ => rfl⟩
  rw [nI_0] at e1
  refine ⟨s.2, ?_, i2, i3⟩
  rw [← i1]
  exact e1 (fun s => K s.1 s.2)
