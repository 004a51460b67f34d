/-! ===== the model after a call that changed what is told ===== -/
/-- what is found of e is what was kept of f -/
def smY (S Y : MM) (e f : Nat) : Bool := (List.range 14).all (fun k => decide (Y e k = S 23 (14 * f + k))) && (List.range 4).all (fun k => decide ((if Y e 29 = 0 then -1 else Y e (30 + k)) = S 25 (4 * f + k)))
theorem all_c {P Q : Nat → Bool} {k : Nat} (h : ∀ i, i < k → P i = Q i) : (List.range k).all P = (List.range k).all Q := by
  rw [Bool.eq_iff_iff, List.all_eq_true, List.all_eq_true]
  constructor
  · intro a i hi
    rw [← h i (List.mem_range.mp hi)]
    exact a i hi
  · intro a i hi
    rw [h i (List.mem_range.mp hi)]
    exact a i hi
/-- the element is new, or it is not as it was -/
def df (S Y : MM) (mt : Nat → Option Nat) (e : Nat) : Bool := match mt e with
  | none => true
  | some f => !(smY S Y e f)
theorem ms_core {S T Y : MM} {n n' R wt : Nat} {mt : Nat → Option Nat} (hT : TOLD T n' R) (hn : n ≤ 24) (h29 : T 29 0 = nI n) (h30 : ∀ e, e < n → T 30 e = S 4 e) (h31 : ∀ i, i < 14 * n → T 31 i = S 23 i) (h32 : ∀ i, i < 4 * n → T 32 i = S 25 i) (h33 : T 33 0 = 0)
    (hY : LE T Y n' R) (hV : VR Y n') (m1 : ∀ e f, e < n' → mt e = some f → f < n) (m2 : ∀ e f, e < n' → f < n → (T 4 e = S 4 f ↔ mt e = some f)) (hw : n + cn (fun e => (mt e).isNone) n' = n' + wt) :
    ∃ S' : MM, m_changes T = some S' ∧ (∀ k, k ≤ 22 → S' k = T k) ∧ (∀ e, e < n' → GV S' Y e ∧ GE S' Y e) ∧ S' 33 0 = nI (wt + cn (df S Y mt) n') := by
  obtain ⟨S1, e1, g1, k1⟩ := finds_s hT hY hV
  have hn' := hT.1.2.2.1
  have r29 := k1 29 (by omega)
  have r30 := k1 30 (by omega)
  have r31 := k1 31 (by omega)
  have r32 := k1 32 (by omega)
  have r33 := k1 33 (by omega)
  have sm : ∀ e f, e < n' → mt e = some f → smM S1 e f = smY S Y e f := fun e f he hf => by
    have hfn := m1 e f he hf
    obtain ⟨gv, ge, _⟩ := g1 e he
    unfold smM smY
    congr 1
    · refine all_c fun i hi => ?_
      rw [(gv i hi).1, r31, h31 _ (by omega)]
    · refine all_c fun i hi => ?_
      rw [ge i hi, r32, h32 _ (by omega)]
  have hm : mch S1 n' n mt := ⟨m1, fun e f he hf => by
    rw [k1 4 (by omega), r30, h30 f hf]
    exact m2 e f he hf⟩
  have hc := cnED (S := S1) (mt := mt) n'
  obtain ⟨S', e2, o2, c2⟩ := changes_s (wt := wt) e1 ((congrFun (k1 3 (by omega)) 0).trans hT.1.1) hn' hn ((congrFun r29 0).trans h29) ((congrFun r33 0).trans h33) hm (by omega)
  have o3 : ∀ k, k ≠ 33 → S' k = S1 k := fun k hk => funext fun j => o2 k j (fun z => hk z.1)
  refine ⟨S', e2, fun k hk => (o3 k (by omega)).trans (k1 k (by omega)), fun e he => ?_, ?_⟩
  · obtain ⟨gv, ge, gl⟩ := g1 e he
    unfold GV GE
    rw [o3 23 (by decide), o3 24 (by decide), o3 25 (by decide), o3 26 (by decide)]
    exact ⟨gv, ge, gl⟩
  · rw [c2]
    congr 1
    have : ∀ k, k ≤ n' → cn (isD S1 mt) k + cn (fun e => (mt e).isNone) k = cn (df S Y mt) k := by
      intro k
      induction k with
      | zero => exact fun _ => rfl
      | succ k ih =>
        intro hk
        have ih := ih (by omega)
        unfold cn
        have : (if isD S1 mt k = true then 1 else 0) + (if (mt k).isNone = true then 1 else 0) = if df S Y mt k = true then 1 else 0 := by
          unfold isD df
          cases hq : mt k with
          | none => rfl
          | some f =>
            show (if (!(smM S1 k f)) = true then 1 else 0) + 0 = (if (!(smY S Y k f)) = true then 1 else 0)
            rw [sm k f (by omega) hq]
            rfl
        omega
    have := this n' (Nat.le_refl _)
    omega
