/-! ===== the model's functions, as what they tell: places and chains ===== -/
theorem nI_ne1 {a : Nat} (h : a < 2 ^ 31) : ¬ nI a = -1 := fun z => by
  have := congrArg Int32.toInt z
  rw [nI_toInt h] at this
  have e : (-1 : Int32).toInt = -1 := by decide
  omega
/-- the tree of the model: n places, parents have smaller ones -/
def TS (S : MM) (n : Nat) : Prop := S 3 0 = nI n ∧ 1 ≤ n ∧ n ≤ 24 ∧ S 5 0 = -1 ∧ ∀ e, 0 < e → e < n → ∃ q, q < e ∧ S 5 e = nI q
def par (S : MM) (e : Nat) : Option Nat := if S 5 e = -1 then none else some (tn (S 5 e))
theorem par_0 {S : MM} {n : Nat} (h : TS S n) : par S 0 = none := if_pos h.2.2.2.1
theorem par_s {S : MM} {n e : Nat} (h : TS S n) (h0 : 0 < e) (he : e < n) : ∃ q, q < e ∧ S 5 e = nI q ∧ par S e = some q := by
  obtain ⟨q, h1, h2⟩ := h.2.2.2.2 e h0 he
  have h3 := h.2.2.1
  refine ⟨q, h1, h2, ?_⟩
  unfold par
  rw [h2, if_neg (nI_ne1 (by omega)), tn_nI (by omega)]
/-- a place and those above it -/
def ach (S : MM) : Nat → Nat → List Nat
  | 0, _ => []
  | f + 1, e => e :: (match par S e with
    | none => []
    | some q => ach S f q)
theorem isBelow_l {S : MM} {n : Nat} (h : TS S n) {a : Nat} (ha : a < 2 ^ 31) {K : Int32 → Option Int32} : ∀ (e : Nat), e < n → ∀ fu f, e + 2 ≤ fu → e + 1 ≤ f → m_isBelow_2 K S (nI a) fu (nI e) = if a ∈ ach S f e then K (nI a) else K (-1) := by
  have h24 := h.2.2.1
  intro e
  induction e using Nat.strongRecOn with
  | ind e ih =>
    intro he fu f hfu hf
    obtain ⟨fu, rfl⟩ : ∃ z, fu = z + 1 := ⟨fu - 1, by omega⟩
    obtain ⟨f, rfl⟩ : ∃ z, f = z + 1 := ⟨f - 1, by omega⟩
    rw [m_isBelow_2, if_neg (nI_ne1 (by omega))]
    by_cases q : e = a
    · subst q
      rw [if_pos rfl, if_pos (by unfold ach; exact List.mem_cons_self)]
    · rw [if_neg (fun z => q ((nI_eq (by omega) ha).mp z)), if_pos (ix_nI (by omega) (by omega)), tn_nI (by omega)]
      show m_isBelow_2 K S (nI a) fu (S 5 e) = _
      by_cases e0 : e = 0
      · subst e0
        rw [h.2.2.2.1]
        obtain ⟨fu, rfl⟩ : ∃ z, fu = z + 1 := ⟨fu - 1, by omega⟩
        rw [m_isBelow_2, if_pos rfl]
        have : ¬ a ∈ ach S (f + 1) 0 := by
          unfold ach
          rw [par_0 h]
          intro z
          rcases List.mem_cons.mp z with z | z
          · exact q z.symm
          · cases z
        rw [if_neg this]
      · obtain ⟨p, p1, p2, p3⟩ := par_s h (by omega) he
        rw [p2, ih p p1 (by omega) fu f (by omega) (by omega)]
        have : a ∈ ach S (f + 1) e ↔ a ∈ ach S f p := by
          rw [ach, p3]
          exact ⟨fun z => (List.mem_cons.mp z).resolve_left (fun y => q y.symm), fun z => List.mem_cons_of_mem _ z⟩
        by_cases y : a ∈ ach S f p
        · rw [if_pos y, if_pos (this.mpr y)]
        · rw [if_neg y, if_neg (fun z => y (this.mp z))]
theorem isBelow_s {S : MM} {n : Nat} (h : TS S n) {e a : Nat} (he : e < n) (ha : a < 2 ^ 31) : m_isBelow S (nI e) (nI a) = some (if a ∈ ach S 25 e then 1 else 0) := by
  have h24 := h.2.2.1
  unfold m_isBelow
  rw [isBelow_l h ha e he 1000 25 (by omega) (by omega)]
  by_cases q : a ∈ ach S 25 e
  · rw [if_pos q, if_pos q, if_pos rfl]
  · rw [if_neg q, if_neg q, if_neg (fun z => nI_ne1 ha z.symm)]
theorem placeOf_l {S : MM} {n : Nat} (h : TS S n) {x : Int32} : ∀ (m e : Nat), e + m = n → ∀ fu, m + 1 ≤ fu → m_placeOf_2 S x fu (nI e) = some (match (List.range' e m).find? (fun k => S 4 k = x) with | some k => nI k | none => -1) := by
  have h24 := h.2.2.1
  intro m
  induction m with
  | zero =>
    intro e he fu hfu
    obtain ⟨fu, rfl⟩ : ∃ z, fu = z + 1 := ⟨fu - 1, by omega⟩
    have : e = n := by omega
    subst this
    rw [m_placeOf_2, h.1, if_pos (nI_le (Nat.le_refl _) (by omega))]
    rfl
  | succ m ih =>
    intro e he fu hfu
    obtain ⟨fu, rfl⟩ : ∃ z, fu = z + 1 := ⟨fu - 1, by omega⟩
    rw [m_placeOf_2, h.1, if_neg (nI_ge (by omega) (by omega)), if_pos (ix_nI (by omega) (by omega)), tn_nI (by omega), List.range'_succ, List.find?_cons]
    by_cases q : S 4 e = x
    · rw [if_pos q]
      simp [q]
    · rw [if_neg q, nI_1, ih (e + 1) (by omega) fu (by omega)]
      simp [q]
