/-! ===== the model's functions: fits ===== -/
theorem bd_s {α β : Type} (v : α) (f : α → Option β) : bd (some v) f = f v := rfl
theorem nI_plus (a k : Nat) (z : Int32) (hz : z = nI k) : nI a + z = nI (a + k) := by rw [hz, nI_add]
theorem b01_ne {v : Int32} (h : v = 0 ∨ v = 1) (q : ¬ v = 0) : v = 1 := h.resolve_left q
theorem fit_in {S : MM} {n p f : Nat} (h : TS S n) (hf : f < n) (hp : p + 2 < 48) {K : Int32 → Option Int32} : ∀ (m k : Nat), k + m = n → ∀ fu, m + 1 ≤ fu → ∀ x4 : Int32, (x4 = 0 ∨ x4 = 1) →
    ∃ v, m_isFit_99 K S (nI p) (nI f) fu x4 (nI k) = K v ∧ (v = 1 ↔ x4 = 1 ∨ ∃ g, k ≤ g ∧ g < n ∧ ldS S (S 12 (p + 2)) f g ∧ pl S (p + 2) g) ∧ (v = 0 ∨ v = 1) := by
  have h24 := h.2.2.1
  intro m
  induction m with
  | zero =>
    intro k hk fu hfu x4 hx
    obtain ⟨fu, rfl⟩ : ∃ z, fu = z + 1 := ⟨fu - 1, by omega⟩
    have : k = n := by omega
    subst this
    rw [m_isFit_99, h.1, if_pos (nI_le (Nat.le_refl _) (by omega))]
    exact ⟨x4, rfl, ⟨fun z => Or.inl z, fun z => z.elim id (fun ⟨g, g1, g2, _⟩ => absurd g1 (by omega))⟩, hx⟩
  | succ m ih =>
    intro k hk fu hfu x4 hx
    obtain ⟨fu, rfl⟩ : ∃ z, fu = z + 1 := ⟨fu - 1, by omega⟩
    rw [m_isFit_99, h.1, if_neg (nI_ge (by omega) (by omega))]
    rcases hx with hx | hx
    · rw [if_pos hx, nI_plus p 2 2 rfl, if_pos (ix_nI hp (by omega))]
      obtain ⟨v, v1, v2, v3⟩ := leads_s (f := k) (way := S 12 (tn (nI (p + 2)))) h hf (by omega)
      rw [tn_nI (by omega)] at v2
      rw [v1, bd_s]
      have hkn : k < 24 := by omega
      rw [if_pos (fun _ => isPartOf_g hp hkn)]
      obtain ⟨q1, q2⟩ := isPartOf_v (S := S) hp hkn
      have key : ∀ y : Int32, (y = 1 ↔ ldS S (S 12 (p + 2)) f k ∧ pl S (p + 2) k) → (y = 0 ∨ y = 1) → ∃ v, m_isFit_99 K S (nI p) (nI f) fu y (nI k + 1) = K v ∧ (v = 1 ↔ x4 = 1 ∨ ∃ g, k ≤ g ∧ g < n ∧ ldS S (S 12 (p + 2)) f g ∧ pl S (p + 2) g) ∧ (v = 0 ∨ v = 1) := by
        intro y hy hy2
        rw [nI_1]
        obtain ⟨u, u1, u2, u3⟩ := ih (k + 1) (by omega) fu (by omega) y hy2
        refine ⟨u, u1, ?_, u3⟩
        rw [u2, hy, hx]
        constructor
        · rintro (z | ⟨g, g1, g2, g3⟩)
          · exact Or.inr ⟨k, Nat.le_refl _, by omega, z⟩
          · exact Or.inr ⟨g, by omega, g2, g3⟩
        · rintro (z | ⟨g, g1, g2, g3⟩)
          · exact absurd z (by decide)
          · by_cases e : g = k
            · rw [e] at g3
              exact Or.inl g3
            · exact Or.inr ⟨g, by omega, g2, g3⟩
      show ∃ w, m_isFit_99 K S (nI p) (nI f) fu (if v = 0 then 0 else if m_isPartOf S (nI (p + 2)) (nI k) = 0 then 0 else 1) (nI k + 1) = K w ∧ _
      by_cases z : v = 0
      · rw [if_pos z]
        exact key 0 ⟨fun y => absurd y (by decide), fun y => absurd (v2.mpr y.1) (by rw [z]; decide)⟩ (Or.inl rfl)
      · rw [if_neg z]
        by_cases y : m_isPartOf S (nI (p + 2)) (nI k) = 0
        · rw [if_pos y]
          exact key 0 ⟨fun x => absurd x (by decide), fun x => absurd (q1.mpr x.2) (by rw [y]; decide)⟩ (Or.inl rfl)
        · rw [if_neg y]
          exact key 1 ⟨fun _ => ⟨v2.mp (b01_ne v3 z), q1.mp (b01_ne q2 y)⟩, fun _ => rfl⟩ (Or.inr rfl)
    · rw [if_neg (by rw [hx]; decide)]
      exact ⟨x4, rfl, ⟨fun _ => Or.inl hx, fun _ => hx⟩, Or.inr hx⟩
/-- a rule's selector fits an element -/
def fitS (S : MM) (n r e : Nat) : Prop := pl S (3 * r) e ∧ (S 11 r = 1 ∨ ∃ f, f < n ∧ ldS S (S 12 (3 * r + 1)) e f ∧ pl S (3 * r + 1) f ∧ (S 11 r = 2 ∨ ∃ g, g < n ∧ ldS S (S 12 (3 * r + 2)) f g ∧ pl S (3 * r + 2) g))
theorem fit_out {S : MM} {n r e : Nat} (h : TS S n) (he : e < n) (hr : r < 16) : ∀ (m k : Nat), k + m = n → ∀ fu, m + 1 ≤ fu → ∀ x4 : Int32, (x4 = 0 ∨ x4 = 1) →
    ∃ v, m_isFit_35 S (nI r) (nI e) (nI (3 * r)) fu x4 (nI k) = some v ∧ (v = 1 ↔ x4 = 1 ∨ ∃ f, k ≤ f ∧ f < n ∧ ldS S (S 12 (3 * r + 1)) e f ∧ pl S (3 * r + 1) f ∧ (S 11 r = 2 ∨ ∃ g, g < n ∧ ldS S (S 12 (3 * r + 2)) f g ∧ pl S (3 * r + 2) g)) ∧ (v = 0 ∨ v = 1) := by
  have h24 := h.2.2.1
  intro m
  induction m with
  | zero =>
    intro k hk fu hfu x4 hx
    obtain ⟨fu, rfl⟩ : ∃ z, fu = z + 1 := ⟨fu - 1, by omega⟩
    have : k = n := by omega
    subst this
    rw [m_isFit_35, h.1, if_pos (nI_le (Nat.le_refl _) (by omega)), if_pos hx]
    exact ⟨x4, rfl, ⟨fun z => Or.inl z, fun z => z.elim id (fun ⟨g, g1, g2, _⟩ => absurd g1 (by omega))⟩, hx⟩
  | succ m ih =>
    intro k hk fu hfu x4 hx
    obtain ⟨fu, rfl⟩ : ∃ z, fu = z + 1 := ⟨fu - 1, by omega⟩
    rw [m_isFit_35, h.1, if_neg (nI_ge (by omega) (by omega))]
    by_cases hx0 : x4 = 0
    · rw [if_pos hx0, nI_plus (3 * r) 1 1 rfl, if_pos (ix_nI (by omega) (by omega))]
      obtain ⟨v, v1, v2, v3⟩ := leads_s (f := k) (way := S 12 (tn (nI (3 * r + 1)))) h he (by omega)
      rw [tn_nI (by omega)] at v2
      rw [v1, bd_s]
      have hkn : k < 24 := by omega
      have hp1 : 3 * r + 1 < 48 := by omega
      have key : ∀ y : Int32, (y = 1 ↔ ldS S (S 12 (3 * r + 1)) e k ∧ pl S (3 * r + 1) k ∧ (S 11 r = 2 ∨ ∃ g, g < n ∧ ldS S (S 12 (3 * r + 2)) k g ∧ pl S (3 * r + 2) g)) → (y = 0 ∨ y = 1) →
          ∃ v, m_isFit_35 S (nI r) (nI e) (nI (3 * r)) fu y (nI k + 1) = some v ∧ (v = 1 ↔ x4 = 1 ∨ ∃ f, k ≤ f ∧ f < n ∧ ldS S (S 12 (3 * r + 1)) e f ∧ pl S (3 * r + 1) f ∧ (S 11 r = 2 ∨ ∃ g, g < n ∧ ldS S (S 12 (3 * r + 2)) f g ∧ pl S (3 * r + 2) g)) ∧ (v = 0 ∨ v = 1) := by
        intro y hy hy2
        rw [nI_1]
        obtain ⟨u, u1, u2, u3⟩ := ih (k + 1) (by omega) fu (by omega) y hy2
        refine ⟨u, u1, ?_, u3⟩
        rw [u2, hy, hx0]
        constructor
        · rintro (z | ⟨g, g1, g2, g3⟩)
          · exact Or.inr ⟨k, Nat.le_refl _, by omega, z⟩
          · exact Or.inr ⟨g, by omega, g2, g3⟩
        · rintro (z | ⟨g, g1, g2, g3⟩)
          · exact absurd z (by decide)
          · by_cases e : g = k
            · rw [e] at g3
              exact Or.inl g3
            · exact Or.inr ⟨g, by omega, g2, g3⟩
      by_cases z : v = 0
      · rw [if_pos z]
        exact key x4 ⟨fun y => absurd y (by rw [hx0]; decide), fun y => absurd (v2.mpr y.1) (by rw [z]; decide)⟩ hx
      · rw [if_neg z, if_pos (isPartOf_g hp1 hkn)]
        obtain ⟨q1, q2⟩ := isPartOf_v (S := S) hp1 hkn
        by_cases y : m_isPartOf S (nI (3 * r + 1)) (nI k) = 0
        · rw [if_pos y]
          exact key x4 ⟨fun x => absurd x (by rw [hx0]; decide), fun x => absurd (q1.mpr x.2.1) (by rw [y]; decide)⟩ hx
        · rw [if_neg y, if_pos (ix_nI hr (by omega)), tn_nI (by omega)]
          have l1 := v2.mp (b01_ne v3 z)
          have l2 := q1.mp (b01_ne q2 y)
          obtain ⟨u, u1, u2, u3⟩ := fit_in (p := 3 * r) (f := k) (K := fun p53 => m_isFit_35 S (nI r) (nI e) (nI (3 * r)) fu p53 (nI k + 1)) h (by omega) (by omega) n 0 (by omega) 1000 (by omega) (if S 11 r = 2 then 1 else 0) (by by_cases t : S 11 r = 2 <;> simp [t])
          rw [nI_0] at u1
          show ∃ v, m_isFit_99 (fun p53 => m_isFit_35 S (nI r) (nI e) (nI (3 * r)) fu p53 (nI k + 1)) S (nI (3 * r)) (nI k) 1000 (if S 11 r = 2 then 1 else 0) 0 = some v ∧ _
          rw [u1]
          refine key u ?_ u3
          rw [u2]
          by_cases t : S 11 r = 2
          · rw [if_pos t]
            exact ⟨fun _ => ⟨l1, l2, Or.inl t⟩, fun _ => Or.inl rfl⟩
          · rw [if_neg t]
            constructor
            · rintro (x | ⟨g, _, g2, g3⟩)
              · exact absurd x (by decide)
              · exact ⟨l1, l2, Or.inr ⟨g, g2, g3⟩⟩
            · rintro ⟨_, _, x | ⟨g, g2, g3⟩⟩
              · exact absurd x t
              · exact Or.inr ⟨g, Nat.zero_le _, g2, g3⟩
    · have hx1 : x4 = 1 := hx.resolve_left hx0
      rw [if_neg hx0, if_pos hx]
      exact ⟨x4, rfl, ⟨fun _ => Or.inl hx1, fun _ => hx1⟩, hx⟩
theorem isFit_s {S : MM} {n r e : Nat} (h : TS S n) (he : e < n) (hr : r < 16) : ∃ v, m_isFit S (nI r) (nI e) = some v ∧ (v = 1 ↔ fitS S n r e) ∧ (v = 0 ∨ v = 1) := by
  have h24 := h.2.2.1
  have hp : 3 * r < 48 := by omega
  have he4 : e < 24 := by omega
  have e3 : (3 : Int32) * nI r = nI (3 * r) := (Int32.ofNat_mul 3 r).symm
  have eF : m_isFit S (nI r) (nI e) = (if m_isPartOf_g S (nI (3 * r)) (nI e) then if m_isPartOf S (nI (3 * r)) (nI e) = 0 then some 0 else (if ix (nI r) 16 then m_isFit_35 S (nI r) (nI e) (nI (3 * r)) 1000 (if S 11 (tn (nI r)) = 1 then 1 else 0) 0 else none) else none) := by
    rw [← e3]
    rfl
  rw [eF, if_pos (isPartOf_g hp he4)]
  unfold fitS
  obtain ⟨q1, q2⟩ := isPartOf_v (S := S) hp he4
  by_cases y : m_isPartOf S (nI (3 * r)) (nI e) = 0
  · rw [if_pos y]
    exact ⟨0, rfl, ⟨fun x => absurd x (by decide), fun x => absurd (q1.mpr x.1) (by rw [y]; decide)⟩, Or.inl rfl⟩
  · rw [if_neg y, if_pos (ix_nI hr (by omega)), tn_nI (by omega)]
    have l2 := q1.mp (b01_ne q2 y)
    obtain ⟨u, u1, u2, u3⟩ := fit_out h he hr n 0 (by omega) 1000 (by omega) (if S 11 r = 1 then 1 else 0) (by by_cases t : S 11 r = 1 <;> simp [t])
    rw [nI_0] at u1
    refine ⟨u, u1, ?_, u3⟩
    rw [u2]
    by_cases t : S 11 r = 1
    · rw [if_pos t]
      exact ⟨fun _ => ⟨l2, Or.inl t⟩, fun _ => Or.inl rfl⟩
    · rw [if_neg t]
      constructor
      · rintro (x | ⟨g, _, g2, g3⟩)
        · exact absurd x (by decide)
        · exact ⟨l2, Or.inr ⟨g, g2, g3⟩⟩
      · rintro ⟨_, x | ⟨g, g2, g3⟩⟩
        · exact absurd x t
        · exact Or.inr ⟨g, Nat.zero_le _, g2, g3⟩
