/-! ===== one more list ===== -/
theorem pw_new {A D : Nat → Nat} {R N : Nat} {Pl dP Pl' dP' : Nat → Nat} (h : (lsA A D R Pl dP).Pairwise pw) (hN : ∀ i, i < R + 5 → lad D dP i < N ∧ lad A Pl i < N) (o : ∀ i, i < R + 5 → lad A Pl' i = lad A Pl i ∧ lad D dP' i = lad D dP i) (k1 : N ≤ lad A Pl' (R + 5)) (k2 : lad D dP' (R + 5) = 4 ∨ N ≤ lad D dP' (R + 5)) : (lsA A D (R + 1) Pl' dP').Pairwise pw := by
  rw [pw_i] at h ⊢
  intro i j hi hj hij
  by_cases qi : i = R + 5
  · subst qi
    have hj : j < R + 5 := by omega
    obtain ⟨a, b⟩ := o j hj
    obtain ⟨c, d⟩ := hN j hj
    rw [a, b]
    refine ⟨by omega, fun z => ?_⟩
    rcases k2 with y | y
    · exact y
    · omega
  · have hi : i < R + 5 := by omega
    obtain ⟨a, b⟩ := o i hi
    obtain ⟨c, d⟩ := hN i hi
    by_cases qj : j = R + 5
    · subst qj
      rw [a, b]
      refine ⟨by omega, fun z => ?_⟩
      rcases k2 with y | y
      · rw [z, y]
      · omega
    · obtain ⟨a2, b2⟩ := o j (by omega)
      rw [a, b, a2, b2]
      exact h i j hi (by omega) hij
/-- the places of the lists with one more rule -/
theorem lad_up {A Pl : Nat → Nat} {R v : Nat} : (∀ i, i < R + 5 → lad A (up Pl R v) i = lad A Pl i) ∧ lad A (up Pl R v) (R + 5) = v := by
  refine ⟨fun i hi => ?_, ?_⟩
  · unfold lad
    by_cases q : i < 5
    · rw [if_pos q, if_pos q]
    · rw [if_neg q, if_neg q, up_n (by omega)]
  · unfold lad
    rw [if_neg (by omega), show R + 5 - 5 = R by omega, up_i]
theorem map_up {f : Nat → Nat} {R v : Nat} : (List.range (R + 1)).map (up f R v) = (List.range R).map f ++ [v] := by
  rw [List.range_succ, List.map_append, List.map_cons, List.map_nil, up_i, List.map_congr_left (fun k hk => up_n (f := f) (v := v) (by
    have := List.mem_range.mp hk
    omega))]
theorem inj_up {f : Nat → Nat} {R v : Nat} (h : inj R f) (hv : ∀ e, e < R → f e ≠ v) : inj (R + 1) (up f R v) := fun e he e' he' z => by
  by_cases q : e = R
  · by_cases q' : e' = R
    · rw [q, q']
    · rw [q, up_i, up_n q'] at z
      exact absurd z.symm (hv e' (by omega))
  · by_cases q' : e' = R
    · rw [q', up_i, up_n q] at z
      exact absurd z (hv e (by omega))
    · rw [up_n q, up_n q'] at z
      exact h e (by omega) e' (by omega) z
