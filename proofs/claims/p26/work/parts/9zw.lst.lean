/-! ===== the lists by their places: one of them has another row ===== -/
theorem rg5 {α : Type} (g : Nat → α) (R : Nat) : (List.range (R + 5)).map g = g 0 :: g 1 :: g 2 :: g 3 :: g 4 :: (List.range R).map (fun r => g (r + 5)) := by
  rw [List.range_succ_eq_map, List.range_succ_eq_map, List.range_succ_eq_map, List.range_succ_eq_map, List.range_succ_eq_map]
  simp only [List.map_cons, List.map_map, Function.comp_def]
def lad (A Pl : Nat → Nat) (i : Nat) : Nat := if i < 5 then A (7 + i) else Pl (i - 5)
theorem lsA_g {A D : Nat → Nat} {R : Nat} {Pl dP : Nat → Nat} : lsA A D R Pl dP = (List.range (R + 5)).map (fun i => (lad A Pl i, lad D dP i)) := by
  rw [rg5]
  rfl
theorem pw_i {A D : Nat → Nat} {R : Nat} {Pl dP : Nat → Nat} : (lsA A D R Pl dP).Pairwise pw ↔ ∀ i j, i < R + 5 → j < R + 5 → i ≠ j → lad A Pl i ≠ lad A Pl j ∧ (lad D dP i = lad D dP j → lad D dP i = 4) := by
  rw [lsA_g, List.pairwise_map]
  constructor
  · intro h i j hi hj hij
    have key : ∀ a b, a < b → b < R + 5 → pw (lad A Pl a, lad D dP a) (lad A Pl b, lad D dP b) := fun a b hab hb => by
      have := List.pairwise_iff_getElem.mp h a b (by rw [List.length_range]; omega) (by rw [List.length_range]; exact hb) hab
      rw [List.getElem_range, List.getElem_range] at this
      exact this
    rcases Nat.lt_or_ge i j with q | q
    · exact key i j q hj
    · obtain ⟨a, b⟩ := key j i (by omega) hi
      exact ⟨fun z => a z.symm, fun z => by
        have z' : lad D dP j = lad D dP i := z.symm
        rw [z]
        exact b z'⟩
  · intro h
    refine List.pairwise_iff_getElem.mpr (fun a b ha hb hab => ?_)
    rw [List.length_range] at ha hb
    rw [List.getElem_range, List.getElem_range]
    exact h a b ha hb (by omega)
/-- one place has another row: an old one of its own, or a new one -/
theorem pw_up {A D D' : Nat → Nat} {R k N : Nat} {Pl dP dP' : Nat → Nat} (h : (lsA A D R Pl dP).Pairwise pw) (hN : ∀ i, i < R + 5 → lad D dP i < N) (o : ∀ i, i < R + 5 → i ≠ k → lad D' dP' i = lad D dP i) (hk : lad D' dP' k = lad D dP k ∨ N ≤ lad D' dP' k) : (lsA A D' R Pl dP').Pairwise pw := by
  rw [pw_i] at h ⊢
  intro i j hi hj hij
  obtain ⟨a, b⟩ := h i j hi hj hij
  refine ⟨a, fun z => ?_⟩
  by_cases qi : i = k
  · subst qi
    have ej := o j hj (fun y => hij y.symm)
    rcases hk with q | q
    · rw [q, ej] at z
      rw [q]
      exact b z
    · have := hN j hj
      omega
  · have ei := o i hi qi
    by_cases qj : j = k
    · subst qj
      rcases hk with q | q
      · rw [q, ei] at z
        rw [ei]
        exact b z
      · have := hN i hi
        omega
    · have ej := o j hj qj
      rw [ei, ej] at z
      rw [ei]
      exact b z
/-- all rows of the lists are there -/
theorem lad_n {A D : Nat → Nat} {m : Nat} {h : Hp} {S : MM} {n R : Nat} {Ee : Nat → Nat} {is ss : List Nat} {ra : Nat → Nat} {pa : Nat → Nat → Nat} {Dd Pl dP : Nat → Nat} (T : TLD A D m h S n R Ee is ss ra pa Dd Pl dP) : ∀ i, i < R + 5 → lad D dP i < hN h ∧ lad A Pl i < hN h ∧ hK h (lad A Pl i) = 0 := fun i hi => by
  obtain ⟨hg, hX, ⟨l7, l8, ⟨⟨xs, l9⟩, cp⟩, l10, l11, lp⟩, hE, hT, ⟨ri, di, hRr⟩, _⟩ := T
  have one : ∀ {a d : Nat} {xs : List Nat}, AL h a d xs → d < hN h ∧ a < hN h ∧ hK h a = 0 := fun {a d xs} H => ⟨AL_dn hg H, (kind_in hg H.1 (by decide)).2, H.1⟩
  unfold lad
  by_cases q : i < 5
  · rw [if_pos q, if_pos q]
    have : i = 0 ∨ i = 1 ∨ i = 2 ∨ i = 3 ∨ i = 4 := by omega
    rcases this with z | z | z | z | z <;> subst z
    · exact one l7
    · exact one l8
    · exact one l9
    · exact one l10
    · exact one l11
  · rw [if_neg q, if_neg q]
    exact one (hRr (i - 5) (by omega)).2.1.2
