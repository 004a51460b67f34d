/-! ===== the model's call remove, the rest ===== -/
/-- a place's row of what is told -/
def cpy (S0 s : MM) (its : Nat → Nat) (e : Nat) : Prop := s 4 (its e) = S0 4 e ∧ s 5 (its e) = (if S0 5 e = -1 then -1 else nI (its (tn (S0 5 e)))) ∧ s 6 (its e) = S0 6 e ∧ s 7 (its e) = S0 7 e ∧ s 8 (its e) = S0 8 e ∧ s 9 (its e) = S0 9 e
theorem rm142 {S0 : MM} {n : Nat} {P : Nat → Bool} {K : MM → Option (Int32 × MM)} (h : TS S0 n) (h9 : ∀ e, e < n → S0 9 e = 0 ∨ S0 9 e = 1) (h35 : ∀ e, e < n → (S0 35 e = 0 ↔ P e = true)) (h34 : ∀ e, e < n → S0 34 e = nI (cn P e)) : ∃ S' : MM, m_remove_142 K 1000 0 S0 = K S' ∧ (∀ e, e < n → P e = true → cpy S0 S' (cn P) e) ∧ ∀ k, ¬ (4 ≤ k ∧ k ≤ 9) → S' k = S0 k := by
  have h24 := h.2.2.1
  obtain ⟨s, ⟨i1, i2, i3⟩, e1⟩ := lp_0 (σ := MM) (α := Option (Int32 × MM)) (L := fun K fu k s => m_remove_142 K fu (nI k) s) (n := n)
    (Inv := fun k s => (∀ e, e < k → P e = true → cpy S0 s (cn P) e) ∧ (∀ i, ¬ (4 ≤ i ∧ i ≤ 9) → s i = S0 i) ∧ ∀ i j, k ≤ j → s i j = S0 i j)
    (fun K fu s hi => by
      show m_remove_142 K (fu + 1) (nI n) s = K s
      rw [m_remove_142, hi.2.1 3 (by decide), h.1, if_pos (Int32.le_refl _)])
    (fun fu k s hk hi => by
      obtain ⟨j1, j2, j3⟩ := hi
      by_cases q : P k = true
      · obtain ⟨t, et⟩ : ∃ t, t = cn P k := ⟨_, rfl⟩
        have ht : t ≤ k := et ▸ cn_le P k
        obtain ⟨pv, epv⟩ : ∃ pv : Int32, pv = if S0 5 k = -1 then -1 else nI (cn P (tn (S0 5 k))) := ⟨_, rfl⟩
        obtain ⟨s1, es1⟩ : ∃ s1 : MM, s1 = u2 (u2 (u2 (u2 (u2 (u2 s 4 t (S0 4 k)) 5 t pv) 6 t (S0 6 k)) 7 t (S0 7 k)) 8 t (S0 8 k)) 9 t (S0 9 k) := ⟨_, rfl⟩
        have s1o : ∀ i j, j ≠ t → s1 i j = s i j := fun i j hj => by
          rw [es1, u2_ne (fun z => hj z.2), u2_ne (fun z => hj z.2), u2_ne (fun z => hj z.2), u2_ne (fun z => hj z.2), u2_ne (fun z => hj z.2), u2_ne (fun z => hj z.2)]
        refine ⟨s1, ⟨fun e he pe => ?_, fun i hi => ?_, fun i j hj => ?_⟩, fun K => ?_⟩
        · by_cases z : e = k
          · subst z
            unfold cpy
            rw [← et, es1]
            refine ⟨?_, ?_, ?_, ?_, ?_, ?_⟩
            · rw [u2_row (by decide), u2_row (by decide), u2_row (by decide), u2_row (by decide), u2_row (by decide), u2_self]
            · rw [u2_row (by decide), u2_row (by decide), u2_row (by decide), u2_row (by decide), u2_self, epv]
            · rw [u2_row (by decide), u2_row (by decide), u2_row (by decide), u2_self]
            · rw [u2_row (by decide), u2_row (by decide), u2_self]
            · rw [u2_row (by decide), u2_self]
            · rw [u2_self]
          · have ne : cn P e ≠ t := fun y => z (cn_inj pe q (y.trans et))
            unfold cpy
            rw [s1o _ _ ne, s1o _ _ ne, s1o _ _ ne, s1o _ _ ne, s1o _ _ ne, s1o _ _ ne]
            exact j1 e (by omega) pe
        · funext j
          rw [es1, u2_row (by omega), u2_row (by omega), u2_row (by omega), u2_row (by omega), u2_row (by omega), u2_row (by omega), j2 i hi]
        · rw [s1o i j (by omega)]
          exact j3 i j (by omega)
        · show m_remove_142 K (fu + 1) (nI k) s = m_remove_142 K fu (nI (k + 1)) s1
          have r4 : s 4 k = S0 4 k := j3 4 k (Nat.le_refl k)
          have r5 : s 5 k = S0 5 k := j3 5 k (Nat.le_refl k)
          have r6 : s 6 k = S0 6 k := j3 6 k (Nat.le_refl k)
          have r7 : s 7 k = S0 7 k := j3 7 k (Nat.le_refl k)
          have r8 : s 8 k = S0 8 k := j3 8 k (Nat.le_refl k)
          have r9 : s 9 k = S0 9 k := j3 9 k (Nat.le_refl k)
          have r34 : ∀ j, j < n → s 34 j = nI (cn P j) := fun j hj => (congrFun (j2 34 (by decide)) j).trans (h34 j hj)
          have hpar : ¬ (S0 5 k = -1) → ∃ qq, S0 5 k = nI qq ∧ qq < n := fun z => by
            rcases Nat.eq_zero_or_pos k with y | y
            · subst y
              exact absurd h.2.2.2.1 z
            · obtain ⟨qq, a, b⟩ := h.2.2.2.2 k y hk
              exact ⟨qq, b, by omega⟩
          have hix : ¬ (u2 s 4 t (S0 4 k) 5 k = -1) → ix (u2 s 4 t (S0 4 k) 5 k) 24 := fun z => by
            rw [u2_row (by decide), r5] at z ⊢
            obtain ⟨qq, a, b⟩ := hpar z
            rw [a]
            exact ix_nI (by omega) (by omega)
          have hpv : (if u2 s 4 t (S0 4 k) 5 k = -1 then -1 else u2 s 4 t (S0 4 k) 34 (tn (u2 s 4 t (S0 4 k) 5 k))) = pv := by
            rw [u2_row (by decide), u2_row (by decide), r5, epv]
            by_cases z : S0 5 k = -1
            · rw [if_pos z, if_pos z]
            · rw [if_neg z, if_neg z]
              obtain ⟨qq, a, b⟩ := hpar z
              rw [a, tn_nI (by omega), r34 qq b]
          have e9 : (((((u2 s 4 t (S0 4 k)) : MM) |> fun x => u2 x 5 t pv) |> fun x => u2 x 6 t (S0 6 k)) |> fun x => u2 (u2 x 7 t (S0 7 k)) 8 t (S0 8 k)) 9 k = S0 9 k := by
            show u2 (u2 (u2 (u2 (u2 s 4 t (S0 4 k)) 5 t pv) 6 t (S0 6 k)) 7 t (S0 7 k)) 8 t (S0 8 k) 9 k = _
            rw [u2_row (by decide), u2_row (by decide), u2_row (by decide), u2_row (by decide), u2_row (by decide), r9]
          have e9 : u2 (u2 (u2 (u2 (u2 s 4 t (S0 4 k)) 5 t pv) 6 t (S0 6 k)) 7 t (S0 7 k)) 8 t (S0 8 k) 9 k = S0 9 k := e9
          have e35 : s 35 k = 0 := (congrFun (j2 35 (by decide)) k).trans ((h35 k hk).mpr q)
          rw [m_remove_142, j2 3 (by decide), h.1, if_neg (nI_ge hk (by omega)), if_pos (ix_nI (by omega) (by omega))]
          simp only [tn_nI (show k < 2 ^ 31 by omega)]
          rw [if_pos e35, r34 k hk, ← et, bnd_s, if_pos (ix_nI (by omega) (by omega))]
          simp only [tn_nI (show t < 2 ^ 31 by omega)]
          rw [bnd_s, r4, if_pos hix, hpv, bnd_s, bnd_s, u2_row (show 6 ≠ 5 by decide), u2_row (show 6 ≠ 4 by decide), r6, bnd_s, u2_row (show 7 ≠ 6 by decide), u2_row (show 7 ≠ 5 by decide), u2_row (show 7 ≠ 4 by decide), r7, bnd_s, u2_row (show 8 ≠ 7 by decide), u2_row (show 8 ≠ 6 by decide), u2_row (show 8 ≠ 5 by decide), u2_row (show 8 ≠ 4 by decide), r8, bnd_s, e9, if_pos (h9 k hk), bnd_s, nI_1, ← es1]
      · refine ⟨s, ⟨fun e he pe => ?_, j2, fun i j hj => j3 i j (by omega)⟩, fun K => ?_⟩
        · have : e ≠ k := fun z => q (z ▸ pe)
          exact j1 e (by omega) pe
        · show m_remove_142 K (fu + 1) (nI k) s = m_remove_142 K fu (nI (k + 1)) s
          have e35 : ¬ s 35 k = 0 := fun z => q ((h35 k hk).mp ((congrFun (j2 35 (by decide)) k).symm.trans z))
          rw [m_remove_142, j2 3 (by decide), h.1, if_neg (nI_ge hk (by omega)), if_pos (ix_nI (by omega) (by omega))]
          simp only [tn_nI (show k < 2 ^ 31 by omega)]
          rw [if_neg e35, nI_1])
    (fu := 1000) (s := S0) (by omega) ⟨fun e he => absurd he (Nat.not_lt_zero e), fun _ _ => rfl, fun _ _ _ => rfl⟩
  rw [nI_0] at e1
  exact ⟨s, e1 K, i1, i2⟩
