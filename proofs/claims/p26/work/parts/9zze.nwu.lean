/-! ===== the cells of a new rule ===== -/
def nwU (h : Hp) (n o y b : Int32) : Hp := sI (sI (sI (sR (nw (sR (nls (nw (nw h 6 0) 0 0) (hN (nw h 6 0))) fU_parts (hN h) (some (hN (nw h 6 0)))) 105 14) fU_declarations (hN h) (some (hN (nw h 6 0) + 1))) fU_least (hN h) (-1)) fU_number (hN h) n) fU_group (hN h) (gpO o y b)
theorem OLD_nls {h0 h : Hp} {a : Nat} (ha : hN h0 ≤ a) (H : OLD h0 h) : OLD h0 (nls h a) := OLD_sR ha (OLD_sI ha H)
theorem OLD_nw2 {h0 h : Hp} {k n : Nat} (H : OLD h0 h) : OLD h0 (nw h k n) := OLD_t H OLD_nw
theorem nwU_O (h : Hp) (n o y b : Int32) : OLD h (nwU h n o y b) := by
  have e1 : hN h ≤ hN (nw h 6 0) := by rw [hN_nw]; omega
  exact OLD_sI (Nat.le_refl _) (OLD_sI (Nat.le_refl _) (OLD_sI (Nat.le_refl _) (OLD_sR (Nat.le_refl _) (OLD_nw2 (OLD_sR (Nat.le_refl _) (OLD_nls e1 (OLD_nw2 OLD_nw)))))))
theorem nwU_N (h : Hp) (n o y b : Int32) : hN (nwU h n o y b) = hN h + 3 := by
  unfold nwU
  rw [hN_sI, hN_sI, hN_sI, hN_sR, hN_nw, hN_sR, (nls_s _ _).1, hN_nw, hN_nw]
theorem nwU_g {h : Hp} {n o y b : Int32} (hg : Good h) : Good (nwU h n o y b) := by
  have g1 : Good (nw (nw h 6 0) 0 0) := gd_nw (gd_nw hg (by decide) (by decide)) (by decide) (by decide)
  have g2 : Good (nls (nw (nw h 6 0) 0 0) (hN (nw h 6 0))) := gd_nls g1 (by simp only [hN_nw]; omega)
  have n2 : hN (nls (nw (nw h 6 0) 0 0) (hN (nw h 6 0))) = hN h + 2 := by rw [(nls_s _ _).1, hN_nw, hN_nw]
  have g3 : Good (sR (nls (nw (nw h 6 0) 0 0) (hN (nw h 6 0))) fU_parts (hN h) (some (hN (nw h 6 0)))) := gd_sR g2 (by rw [n2]; omega) (fun x hx => by cases hx; rw [n2, hN_nw]; omega)
  have g4 := gd_nw (k := 105) (n := 14) g3 (by decide) (by decide)
  have n4 : hN (nw (sR (nls (nw (nw h 6 0) 0 0) (hN (nw h 6 0))) fU_parts (hN h) (some (hN (nw h 6 0)))) 105 14) = hN h + 3 := by rw [hN_nw, hN_sR, n2]
  have g5 := gd_sR (f := fU_declarations) (a := hN h) (v := some (hN (nw h 6 0) + 1)) g4 (by rw [n4]; omega) (fun x hx => by cases hx; rw [n4, hN_nw]; omega)
  unfold nwU
  exact gd_sI (gd_sI (gd_sI g5 (by rw [hN_sR, n4]; omega)) (by rw [hN_sI, hN_sR, n4]; omega)) (by rw [hN_sI, hN_sI, hN_sR, n4]; omega)
theorem nwU_K (h : Hp) (n o y b : Int32) : hK (nwU h n o y b) (hN h) = 6 ∧ hK (nwU h n o y b) (hN h + 1) = 0 ∧ hK (nwU h n o y b) (hN h + 2) = 105 ∧ hL (nwU h n o y b) (hN h + 2) = 14 := by
  have N1 : hN (nw h 6 0) = hN h + 1 := hN_nw h 6 0
  have N2 : hN (nw (nw h 6 0) 0 0) = hN h + 2 := by rw [hN_nw, N1]
  unfold nwU
  obtain ⟨s1, s2, s3, _⟩ := nls_s (nw (nw h 6 0) 0 0) (hN (nw h 6 0))
  rw [hK_sI, hK_sI, hK_sI, hK_sR, hK_nw, hL_sI, hL_sI, hL_sI, hL_sR, hL_nw, hN_sR, hK_sR, hL_sR, s1, s2, s3, N2, hK_nw, N1, hK_nw]
  refine ⟨?_, ?_, ?_, ?_⟩
  · rw [va_up_ne _ _ (by omega), va_up_ne _ _ (by omega), va_up_self]
  · rw [va_up_ne _ _ (by omega), va_up_self]
  · rw [va_up_self]
  · rw [va_up_self]
