/-! ===== the model's functions: weights ===== -/
theorem bits_all : ∀ x, x < 256 → m_bits (nI x) = some (bitC (nI x)) := by decide +kernel
/-- the weight of one part -/
def ptW (S : MM) (q : Nat) : Int32 := 10 * (bitC (S 14 q) + bitC (S 15 q)) + (if S 13 q = -1 then 0 else 1)
/-- the weight of the first k parts of a rule -/
def wtS (S : MM) (r : Nat) : Nat → Int32
  | 0 => 0
  | k + 1 => wtS S r k + ptW S (3 * r + k)
/-- the rules of the model: how many, their parts -/
def RSo (S : MM) (R : Nat) : Prop := S 10 0 = nI R ∧ R ≤ 16 ∧ ∀ r, r < R → ∃ c, S 11 r = nI c ∧ 1 ≤ c ∧ c ≤ 3 ∧ ∀ k, k < c → ∃ x y, x < 256 ∧ y < 256 ∧ S 14 (3 * r + k) = nI x ∧ S 15 (3 * r + k) = nI y
theorem weightOf_l {S : MM} {R r c : Nat} (h : RSo S R) (hr : r < R) (hc : S 11 r = nI c) (hc3 : c ≤ 3) (hp : ∀ k, k < c → ∃ x y, x < 256 ∧ y < 256 ∧ S 14 (3 * r + k) = nI x ∧ S 15 (3 * r + k) = nI y) : ∀ (m k : Nat), k + m = c → ∀ fu, m + 1 ≤ fu → m_weightOf_4 S (nI r) fu (wtS S r k) (nI k) = some (wtS S r c) := by
  have h16 := h.2.1
  intro m
  induction m with
  | zero =>
    intro k hk fu hfu
    obtain ⟨fu, rfl⟩ : ∃ z, fu = z + 1 := ⟨fu - 1, by omega⟩
    have : k = c := by omega
    subst this
    rw [m_weightOf_4, if_pos (ix_nI (by omega) (by omega)), tn_nI (by omega), hc, if_pos (nI_le (Nat.le_refl _) (by omega))]
  | succ m ih =>
    intro k hk fu hfu
    obtain ⟨fu, rfl⟩ : ∃ z, fu = z + 1 := ⟨fu - 1, by omega⟩
    have ih' := ih (k + 1) (by omega) fu (by omega)
    obtain ⟨x, y, x1, y1, x2, y2⟩ := hp k (by omega)
    have e3 : (3 : Int32) * nI r + nI k = nI (3 * r + k) := by rw [show (3 : Int32) * nI r = nI (3 * r) from (Int32.ofNat_mul 3 r).symm, nI_add]
    have eF : m_weightOf_4 S (nI r) (fu + 1) (wtS S r k) (nI k) = (if ix (nI r) 16 then (if S 11 (tn (nI r)) ≤ nI k then some (wtS S r k) else (if ix (nI (3 * r + k)) 48 then bd (m_bits (S 14 (tn (nI (3 * r + k))))) fun p8 => (bd (m_bits (S 15 (tn (nI (3 * r + k))))) fun p9 => m_weightOf_4 S (nI r) fu (wtS S r k + (10 * (p8 + p9) + (if S 13 (tn (nI (3 * r + k))) = -1 then 0 else 1))) (nI k + 1)) else none)) else none) := by
      rw [← e3]
      rfl
    have hq : 3 * r + k < 48 := by omega
    rw [eF, if_pos (ix_nI (by omega) (by omega)), tn_nI (by omega), hc, if_neg (nI_ge (by omega) (by omega)), if_pos (ix_nI hq (by omega)), tn_nI (by omega), x2, y2, bits_all x x1, bits_all y y1, bd_s, bd_s, nI_1]
    have ew : wtS S r (k + 1) = wtS S r k + (10 * (bitC (nI x) + bitC (nI y)) + (if S 13 (3 * r + k) = -1 then 0 else 1)) := by
      show wtS S r k + ptW S (3 * r + k) = _
      unfold ptW
      rw [x2, y2]
    rw [ew] at ih'
    exact ih'
theorem weightOf_s {S : MM} {R r : Nat} (h : RSo S R) (hr : r < R) : m_weightOf S (nI r) = some (wtS S r (tn (S 11 r))) := by
  have h16 := h.2.1
  obtain ⟨c, c1, c2, c3, c4⟩ := h.2.2 r hr
  unfold m_weightOf
  rw [c1, tn_nI (by omega)]
  have := weightOf_l h hr c1 c3 c4 c 0 (by omega) 1000 (by omega)
  rw [nI_0] at this
  exact this
