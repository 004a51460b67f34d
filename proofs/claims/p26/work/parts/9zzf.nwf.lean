/-! ===== the cells of a new rule: their fields ===== -/
theorem nwU_f {h : Hp} {n o y b : Int32} (hg : Good h) : (hI (nwU h n o y b) fU_least (hN h) = -1 ∧ hI (nwU h n o y b) fU_number (hN h) = n ∧ hI (nwU h n o y b) fU_group (hN h) = gpO o y b ∧ hI (nwU h n o y b) fU_weightInAll (hN h) = 0 ∧ hI (nwU h n o y b) fU_declarationCount (hN h) = 0) ∧
    (hR (nwU h n o y b) fU_parts (hN h) = some (hN h + 1) ∧ hR (nwU h n o y b) fU_declarations (hN h) = some (hN h + 2)) ∧ AL (nwU h n o y b) (hN h + 1) 4 [] ∧ (∀ j, hQ (nwU h n o y b) (hN h + 2) j = none) := by
  have N1 : hN (nw h 6 0) = hN h + 1 := hN_nw h 6 0
  have N2 : hN (nw (nw h 6 0) 0 0) = hN h + 2 := by rw [hN_nw, N1]
  have bl := hg.2.2.1
  obtain ⟨k1, k2, k3, k4⟩ := nwU_K h n o y b
  have eI : ∀ f, f ≠ fU_least → f ≠ fU_number → f ≠ fU_group → f ≠ fA_modCount → hI (nwU h n o y b) f = hI h f := fun f a1 a2 a3 a4 => by
    unfold nwU nls
    rw [iI_ne a3, iI_ne a2, iI_ne a1, hI_sR, hI_nw, hI_sR, hI_sR, iI_ne a4, hI_nw, hI_nw]
  have eR : hR (nwU h n o y b) fA_elementData (hN h + 1) = some 4 := by
    unfold nwU nls
    rw [hR_sI, hR_sI, hR_sI, rR_ne (by decide), hR_nw, rR_ne (by decide), N1, rR_at]
  refine ⟨⟨?_, ?_, ?_, ?_, ?_⟩, ⟨?_, ?_⟩, ⟨k2, ?_, eR, by decide, Or.inl ⟨rfl, rfl⟩⟩, fun j => ?_⟩
  · unfold nwU
    rw [iI_ne (by decide), iI_ne (by decide), iI_at]
  · unfold nwU
    rw [iI_ne (by decide), iI_at]
  · unfold nwU
    rw [iI_at]
  · rw [eI _ (by decide) (by decide) (by decide) (by decide)]
    exact ((bl (hN h) (Nat.le_refl _)).2.1 _).1
  · rw [eI _ (by decide) (by decide) (by decide) (by decide)]
    exact ((bl (hN h) (Nat.le_refl _)).2.1 _).1
  · unfold nwU
    rw [hR_sI, hR_sI, hR_sI, rR_ne (by decide), hR_nw, rR_at, N1]
  · unfold nwU
    rw [hR_sI, hR_sI, hR_sI, rR_at, N1]
  · rw [eI _ (by decide) (by decide) (by decide) (by decide)]
    exact ((bl (hN h + 1) (by omega)).2.1 _).1
  · have : hQ (nwU h n o y b) = hQ h := by
      unfold nwU nls
      rw [hQ_sI, hQ_sI, hQ_sI, hQ_sR, hQ_nw, hQ_sR, hQ_sR, hQ_sI, hQ_nw, hQ_nw]
    rw [this]
    exact ((bl (hN h + 2) (by omega)).2.2 j).2.1
