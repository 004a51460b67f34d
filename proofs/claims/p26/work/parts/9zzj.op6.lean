/-! ===== the call rule: both sides ===== -/
theorem nd_len : ∀ (R : Nat) (xs : List Nat), xs.Nodup → (∀ x, x ∈ xs → x < R) → xs.length ≤ R
  | 0, xs, _, h => by
    cases xs with
    | nil => exact Nat.le_refl 0
    | cons x xs => exact absurd (h x List.mem_cons_self) (Nat.not_lt_zero x)
  | R + 1, xs, nd, h => by
    by_cases q : R ∈ xs
    · have := nd_len R (xs.erase R) (nd.erase R) (fun x hx => by
        obtain ⟨a, b⟩ := nd.mem_erase_iff.mp hx
        have := h x b
        omega)
      rw [List.length_erase_of_mem q] at this
      omega
    · have := nd_len R xs nd (fun x hx => by
        have h1 := h x hx
        have h2 : x ≠ R := fun e => q (e ▸ hx)
        omega)
      omega