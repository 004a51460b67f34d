/-! ===== the calls that read: both sides ===== -/
theorem lme_i {h : Hp} {k p : Nat} (hp : p < 4) : lme h k p = if hI h fL_hasBox k = 0 then -1 else hI h (260 + p) k := by
  unfold lme
  by_cases q : hI h fL_hasBox k = 0
  · rw [if_pos q, if_pos q]
  · rw [if_neg q, if_neg q]
    have : p = 0 ∨ p = 1 ∨ p = 2 ∨ p = 3 := by omega
    rcases this with z | z | z | z <;> subst z <;> rfl
theorem lme_o {h : Hp} {S : MM} {k f p : Nat} (hp : p < 4) (H : LKo h k S f) : lme h k p = S 25 (4 * f + p) := by
  rw [lme_i hp]
  rcases H.2.2 with ⟨c0, _, _, _, _, _, c, _⟩ | ⟨c0, _, c1, c2, c3, c4, _⟩
  · rw [if_pos c0, c p hp]
  · rw [if_neg (fun z => by rw [c0] at z; exact absurd z (by decide))]
    have : p = 0 ∨ p = 1 ∨ p = 2 ∨ p = 3 := by omega
    rcases this with z | z | z | z <;> subst z
    · exact c1
    · exact c2
    · exact c3
    · exact c4
theorem lme_z {h : Hp} {S Y : MM} {k v s e p : Nat} (hp : p < 4) (G : LKZ h k v s Y e) (g : GE S Y e) : lme h k p = S 25 (4 * e + p) := by
  obtain ⟨_, g2, g3, g4, g5, g6, _⟩ := G
  rw [lme_i hp, g2, g.1 p hp]
  by_cases q : Y e 29 = 0
  · rw [if_pos q, if_pos q]
  · rw [if_neg q, if_neg q]
    have : p = 0 ∨ p = 1 ∨ p = 2 ∨ p = 3 := by omega
    rcases this with z | z | z | z <;> subst z
    · exact g3
    · exact g4
    · exact g5
    · exact g6
theorem pr_of {x : Int32} {hi : Nat} (h31 : hi < 2 ^ 31) (q : ¬ (x < 0 ∨ nI hi < x)) : ∃ p, p < hi + 1 ∧ x = nI p := by
  obtain ⟨p, hp, e⟩ := nI_of (fun z => q (Or.inl z))
  refine ⟨p, Nat.lt_of_not_le fun z => q (Or.inr ?_), e⟩
  rw [e]
  exact nI_lt z hp