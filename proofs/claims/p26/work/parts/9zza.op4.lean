/-! ===== the call part: both sides ===== -/
theorem KO_f {h h1 : Hp} {S : MM} {n : Nat} {mt : Nat → Option Nat} {Ee : Nat → Nat} (f : ∀ g, 258 ≤ g → g ≤ 266 → hI h1 g = hI h g) (e1 : hR h1 fE_kept = hR h fE_kept) (e2 : hR h1 fL_values = hR h fL_values) (e3 : hR h1 fL_sources = hR h fL_sources) (eA : hA h1 = hA h) (H : KO h S n mt Ee) : KO h1 S n mt Ee := fun e he => by
  have hk := H e he
  have k1 : kpt h1 = kpt h := funext fun x => by unfold kpt; rw [e1]
  have v1 : vls h1 = vls h := funext fun x => by unfold vls; rw [e2]
  have s1 : scs h1 = scs h := funext fun x => by unfold scs; rw [e3]
  rw [k1]
  cases hm : mt e with
  | none =>
    rw [hm] at hk
    show hI h1 fL_isKnown (kpt h (Ee e)) = 0
    rw [f _ (by decide) (by decide)]
    exact hk
  | some q =>
    rw [hm] at hk
    have hk : LKo h (kpt h (Ee e)) S q := hk
    show LKo h1 (kpt h (Ee e)) S q
    unfold LKo at *
    rw [v1, s1, eA, f fL_isKnown (by decide) (by decide), f fL_hasBox (by decide) (by decide), f fL_left (by decide) (by decide), f fL_top (by decide) (by decide), f fL_width (by decide) (by decide), f fL_height (by decide) (by decide), f fL_lineCount (by decide) (by decide)]
    exact hk
theorem TNR_pa {S : MM} {n R r c : Nat} {w t a b : Int32} (hr : r < R) (hc : S 11 r = nI c) (h3 : c < 3) (qp : ptOk t a b) (H : TNR S n R) : TNR (tPart S r c w t a b) n R := by
  obtain ⟨⟨a1, ⟨a2, a2'⟩, a3, a4⟩, b', c', d, e⟩ := H
  refine ⟨⟨TS_e (tPart_o (by decide)) (tPart_o (by decide)) a1, ⟨⟨?_, a2.2.1, fun r' hr' => ?_⟩, ?_⟩, ?_, ?_⟩, ?_, ?_, ?_, ?_⟩
  · rw [tPart_o (by decide)]
    exact a2.1
  · by_cases z : r' = r
    · subst z
      obtain ⟨c0, f1, f2, f3, f4⟩ := a2.2.2 r' hr'
      have ec : c0 = c := (nI_eq (by omega) (by omega)).mp (f1.symm.trans hc)
      refine ⟨c + 1, tPart_11.1, by omega, by omega, fun k hk => ?_⟩
      by_cases y : k = c
      · subst y
        obtain ⟨u, hu, eu⟩ := pr_of (hi := 255) (by decide) qp.2.1
        obtain ⟨v, hv, ev⟩ := pr_of (hi := 255) (by decide) qp.2.2
        exact ⟨u, v, hu, hv, tPart_i.2.2.1.trans eu, tPart_i.2.2.2.trans ev⟩
      · obtain ⟨u, v, hu, hv, eu, ev⟩ := f4 k (by omega)
        rw [tPart_n (by decide) (by omega), tPart_n (by decide) (by omega)]
        exact ⟨u, v, hu, hv, eu, ev⟩
    · obtain ⟨c0, f1, f2, f3, f4⟩ := a2.2.2 r' hr'
      refine ⟨c0, (tPart_11.2 r' z).trans f1, f2, f3, fun k hk => ?_⟩
      rw [tPart_n (by decide) (by omega), tPart_n (by decide) (by omega)]
      exact f4 k hk
  · rw [tPart_o (by decide), tPart_o (by decide), tPart_o (by decide)]
    exact a2'
  · unfold TDo
    rw [tPart_o (by decide), tPart_o (by decide), tPart_o (by decide)]
    exact a3
  · unfold WDo
    rw [tPart_o (by decide)]
    exact a4
  · unfold NI
    rw [tPart_o (by decide)]
    exact b'
  · rw [tPart_o (by decide)]
    exact c'
  · rw [tPart_o (by decide)]
    exact d
  · rw [tPart_o (by decide)]
    exact e
theorem stB_p {S : MM} {R r c : Nat} {w t a b : Int32} (h : RSo S R) (h3 : c < 3) {x y : Nat} (hx : x < R) (hy : y < R) (nx : x ≠ r) (ny : y ≠ r) : stB (tPart S r c w t a b) x y = stB S x y := by
  unfold stB
  rw [gS_p, wS_p h h3 hx nx, wS_p h h3 hy ny]
