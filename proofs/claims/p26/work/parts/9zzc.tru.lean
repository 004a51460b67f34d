/-! ===== a new rule: what is told ===== -/
theorem tRule_e {S : MM} {R : Nat} {t a b o y i : Int32} : tRule S R t a b o y i = u2 (u2 (u2 (u2 (u2 (u2 (u2 (u2 (u2 (u2 S 12 (3 * R) (-1)) 13 (3 * R) t) 14 (3 * R) a) 15 (3 * R) b) 11 R 1) 16 R o) 17 R y) 18 R i) 19 R (-1)) 10 0 (nI R + 1) := rfl
theorem tRule_o {S : MM} {R : Nat} {t a b o y i : Int32} {k : Nat} (h : k < 10 ∨ 19 < k) : tRule S R t a b o y i k = S k := funext fun j => by
  rw [tRule_e, u2_row (by omega), u2_row (by omega), u2_row (by omega), u2_row (by omega), u2_row (by omega), u2_row (by omega), u2_row (by omega), u2_row (by omega), u2_row (by omega), u2_row (by omega)]
theorem tRule_p {S : MM} {R : Nat} {t a b o y i : Int32} {k j : Nat} (hk : 12 ≤ k ∧ k ≤ 15) (hj : j ≠ 3 * R) : tRule S R t a b o y i k j = S k j := by
  rw [tRule_e, u2_row (by omega), u2_row (by omega), u2_row (by omega), u2_row (by omega), u2_row (by omega), u2_row (by omega), u2_ne (fun z => hj z.2), u2_ne (fun z => hj z.2), u2_ne (fun z => hj z.2), u2_ne (fun z => hj z.2)]
theorem tRule_q {S : MM} {R : Nat} {t a b o y i : Int32} {k j : Nat} (hk : k = 11 ∨ 16 ≤ k) (hj : j ≠ R) : tRule S R t a b o y i k j = S k j := by
  by_cases z : k = 10
  · omega
  · rw [tRule_e, u2_row z, u2_ne (fun z => hj z.2), u2_ne (fun z => hj z.2), u2_ne (fun z => hj z.2), u2_ne (fun z => hj z.2), u2_ne (fun z => hj z.2), u2_row (by omega), u2_row (by omega), u2_row (by omega), u2_row (by omega)]
theorem tRule_i {S : MM} {R : Nat} {t a b o y i : Int32} : tRule S R t a b o y i 10 0 = nI (R + 1) ∧ tRule S R t a b o y i 11 R = 1 ∧ tRule S R t a b o y i 13 (3 * R) = t ∧ tRule S R t a b o y i 14 (3 * R) = a ∧ tRule S R t a b o y i 15 (3 * R) = b ∧ tRule S R t a b o y i 16 R = o ∧ tRule S R t a b o y i 17 R = y ∧ tRule S R t a b o y i 18 R = i ∧ tRule S R t a b o y i 19 R = -1 := by
  rw [tRule_e]
  refine ⟨?_, ?_, ?_, ?_, ?_, ?_, ?_, ?_, ?_⟩
  · rw [u2_self, nI_1]
  · rw [u2_row (by decide), u2_row (by decide), u2_row (by decide), u2_row (by decide), u2_row (by decide), u2_self]
  · rw [u2_row (by decide), u2_row (by decide), u2_row (by decide), u2_row (by decide), u2_row (by decide), u2_row (by decide), u2_row (by decide), u2_row (by decide), u2_self]
  · rw [u2_row (by decide), u2_row (by decide), u2_row (by decide), u2_row (by decide), u2_row (by decide), u2_row (by decide), u2_row (by decide), u2_self]
  · rw [u2_row (by decide), u2_row (by decide), u2_row (by decide), u2_row (by decide), u2_row (by decide), u2_row (by decide), u2_self]
  · rw [u2_row (by decide), u2_row (by decide), u2_row (by decide), u2_row (by decide), u2_self]
  · rw [u2_row (by decide), u2_row (by decide), u2_row (by decide), u2_self]
  · rw [u2_row (by decide), u2_row (by decide), u2_self]
  · rw [u2_row (by decide), u2_self]
theorem gS_u {S : MM} {R q : Nat} {t a b o y i : Int32} (h : q ≠ R) : gS (tRule S R t a b o y i) q = gS S q := by
  unfold gS
  rw [tRule_q (by decide) h, tRule_q (by decide) h, tRule_q (by decide) h]
theorem wS_u {S : MM} {R q : Nat} {t a b o y i : Int32} (h : RSo S R) (hq : q < R) : wS (tRule S R t a b o y i) q = wS S q := by
  obtain ⟨e, e1, e2, e3, _⟩ := h.2.2 q hq
  unfold wS
  rw [tRule_q (by decide) (by omega), e1, tn_nI (by omega)]
  exact wtS_p e (fun j hj => ⟨tRule_p (by decide) (by omega), tRule_p (by decide) (by omega), tRule_p (by decide) (by omega)⟩)
theorem wS_uR {S : MM} {R : Nat} {t a b o y i : Int32} : wS (tRule S R t a b o y i) R = 0 + ptW (tRule S R t a b o y i) (3 * R) := by
  unfold wS
  rw [tRule_i.2.1]
  rfl
theorem stB_u {S : MM} {R p q : Nat} {t a b o y i : Int32} (h : RSo S R) (hp : p < R) (hq : q < R) : stB (tRule S R t a b o y i) p q = stB S p q := by
  unfold stB
  rw [gS_u (by omega), gS_u (by omega), wS_u h hp, wS_u h hq]
theorem TNR_ru {S : MM} {n R : Nat} {t a b o y i : Int32} (hR : R < 16) (qp : ptOk t a b) (ho : ¬ (o < 0 ∨ 1 < o)) (hy : ¬ (y < 0 ∨ 2 < y)) (hi : i = 0 ∨ i = 1) (z : ∀ j, 14 * R ≤ j → S 20 j = 0) (H : TNR S n R) : TNR (tRule S R t a b o y i) n (R + 1) := by
  obtain ⟨⟨a1, ⟨a2, a2'⟩, a3, a4⟩, b', c', d, e⟩ := H
  have ti := tRule_i (S := S) (R := R) (t := t) (a := a) (b := b) (o := o) (y := y) (i := i)
  refine ⟨⟨TS_e (tRule_o (by decide)) (tRule_o (by decide)) a1, ⟨⟨ti.1, hR, fun r hr => ?_⟩, fun r hr => ?_⟩, fun r p hr hp => ?_, ?_⟩, ?_, ?_, ?_, fun r hr => ?_⟩
  · by_cases q : r = R
    · subst q
      refine ⟨1, ti.2.1, Nat.le_refl 1, by decide, fun k hk => ?_⟩
      have : k = 0 := by omega
      subst this
      obtain ⟨u, hu, eu⟩ := pr_of (hi := 255) (by decide) qp.2.1
      obtain ⟨v, hv, ev⟩ := pr_of (hi := 255) (by decide) qp.2.2
      exact ⟨u, v, hu, hv, ti.2.2.2.1.trans eu, ti.2.2.2.2.1.trans ev⟩
    · obtain ⟨c0, f1, f2, f3, f4⟩ := a2.2.2 r (by omega)
      refine ⟨c0, (tRule_q (by decide) q).trans f1, f2, f3, fun k hk => ?_⟩
      rw [tRule_p (by decide) (by omega), tRule_p (by decide) (by omega)]
      exact f4 k hk
  · by_cases q : r = R
    · subst q
      obtain ⟨u, hu, eu⟩ := pr_of (hi := 1) (by decide) ho
      obtain ⟨v, hv, ev⟩ := pr_of (hi := 2) (by decide) hy
      rcases hi with w | w
      · exact ⟨u, v, 0, hu, hv, by decide, ti.2.2.2.2.2.1.trans eu, ti.2.2.2.2.2.2.1.trans ev, ti.2.2.2.2.2.2.2.1.trans w⟩
      · exact ⟨u, v, 1, hu, hv, by decide, ti.2.2.2.2.2.1.trans eu, ti.2.2.2.2.2.2.1.trans ev, ti.2.2.2.2.2.2.2.1.trans w⟩
    · rw [tRule_q (by decide) q, tRule_q (by decide) q, tRule_q (by decide) q]
      exact a2' r (by omega)
  · rw [tRule_o (by decide), tRule_o (by decide), tRule_o (by decide)]
    by_cases q : r = R
    · subst q
      exact Or.inl (z _ (by omega))
    · exact a3 r p (by omega) hp
  · unfold WDo
    rw [tRule_o (by decide)]
    exact a4
  · unfold NI
    rw [tRule_o (by decide)]
    exact b'
  · rw [tRule_o (by decide)]
    exact c'
  · rw [tRule_o (by decide)]
    exact d
  · by_cases q : r = R
    · subst q
      exact Or.inl ti.2.2.2.2.2.2.2.2
    · rw [tRule_q (by decide) q]
      exact e r (by omega)
