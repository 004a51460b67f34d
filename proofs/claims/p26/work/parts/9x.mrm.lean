/-! ===== the model's calls: add, remove ===== -/
def tAdd (S : MM) (n p : Nat) (t c : Int32) : MM := wrs [(4, n, S 2 0), (5, n, nI p), (6, n, t), (7, n, c), (8, n, 0), (9, n, 0), (3, 0, nI n + 1), (2, 0, S 2 0 + 1)] S
theorem tAdd_e {S : MM} {n p : Nat} {t c : Int32} : tAdd S n p t c = u2 (u2 (u2 (u2 (u2 (u2 (u2 (u2 S 4 n (S 2 0)) 5 n (nI p)) 6 n t) 7 n c) 8 n 0) 9 n 0) 3 0 (nI n + 1)) 2 0 (S 2 0 + 1) := rfl
def mtA (n e : Nat) : Option Nat := if e < n then some e else none
theorem m_add_ok {S Y : MM} {n R p : Nat} {x t c : Int32} (h : TOLD S n R) (hN : NI S n) (hF : ∀ f, f < n → S 4 f ≠ S 2 0) (hp : plc S n x = some p) (ht : m_in t 0 5 = 1) (hc : m_in c 0 255 = 1) (hn : n < 24) (hT : TOLD (tAdd S n p t c) (n + 1) R) (hY : LE (tAdd S n p t c) Y (n + 1) R) (hV : VR Y (n + 1)) : ∃ S' : MM, m_add S x t c = some (S 2 0, S') ∧ MR S (tAdd S n p t c) Y (n + 1) (mtA n) 0 S' := by
  have hpn := (plc_lt hp).1
  obtain ⟨Sk, e, hk⟩ := keeps_p h.1
  obtain ⟨t1, t2, t3⟩ := tg_k hk [(4, n, S 2 0), (5, n, nI p), (6, n, t), (7, n, c), (8, n, 0), (9, n, 0), (3, 0, nI n + 1), (2, 0, S 2 0 + 1)] (by simp)
  have T4 : ∀ f, f < n → tAdd S n p t c 4 f = S 4 f := fun f hf => by
    rw [tAdd_e, u2_row (by decide), u2_row (by decide), u2_row (by decide), u2_row (by decide), u2_row (by decide), u2_row (by decide), u2_row (by decide), u2_ne (fun z => absurd z.2 (by omega))]
  have T4n : tAdd S n p t c 4 n = S 2 0 := by
    rw [tAdd_e, u2_row (by decide), u2_row (by decide), u2_row (by decide), u2_row (by decide), u2_row (by decide), u2_row (by decide), u2_row (by decide), u2_self]
  obtain ⟨S', e2, hM⟩ := ms_op (mt := mtA n) (wt := 0) h.1.2.2.1 hk hT t1 (fun i i1 _ => t2 i (by omega)) t3 hY hV (fun e f he hf => by
    unfold mtA at hf
    by_cases q : e < n
    · rw [if_pos q] at hf
      cases hf
      exact q
    · rw [if_neg q] at hf
      cases hf) (fun e f he hf => by
    unfold mtA
    by_cases q : e < n
    · rw [if_pos q, T4 e q]
      constructor
      · intro y
        rw [hN e f q hf y]
      · intro y
        cases y
        rfl
    · have : e = n := by omega
      subst this
      rw [if_neg q, T4n]
      exact ⟨fun y => absurd y.symm (hF f hf), fun y => by cases y⟩) (by
    have e0 : cn (fun e => (mtA n e).isNone) (n + 1) = 1 := by
      unfold cn
      rw [cn_0 n (fun e he => by unfold mtA; rw [if_pos he]; rfl)]
      unfold mtA
      rw [if_neg (Nat.lt_irrefl n)]
      rfl
    rw [e0])
  refine ⟨S', ?_, hM⟩
  have h3 : Sk 3 0 = nI n := (congrFun (KF_r hk ⟨by decide, by decide⟩) 0).trans h.1.1
  have h2 : Sk 2 0 = S 2 0 := congrFun (KF_r hk ⟨by decide, by decide⟩) 0
  have g2 : S' 2 0 = S 2 0 + 1 := (congrFun (hM.1 2 (by decide) (by decide)) 0).trans (by rw [tAdd_e, u2_self])
  unfold m_add
  have e24 : (if (24 : Int32) ≤ S 3 0 then (0 : Int32) else 1) = 1 := by
    rw [h.1.1, if_neg (show ¬ (24 : Int32) ≤ nI n from nI_ge (b := 24) hn (by decide))]
  rw [placeOf_p h.1, hp, bd_s, plI_s, p1_if (by omega), bnd_s, ht, hc, if_10, if_10, bnd_s, e24, bnd_s, asked2_s, c3_ok rfl rfl rfl, if_00, bd2_s, if_10, e, bd_s]
  simp only [u2_row (show (3 : Nat) ≠ 4 by decide), u2_row (show (3 : Nat) ≠ 5 by decide), u2_row (show (3 : Nat) ≠ 6 by decide), u2_row (show (3 : Nat) ≠ 7 by decide), u2_row (show (3 : Nat) ≠ 8 by decide), u2_row (show (3 : Nat) ≠ 9 by decide), u2_row (show (2 : Nat) ≠ 4 by decide), u2_row (show (2 : Nat) ≠ 5 by decide), u2_row (show (2 : Nat) ≠ 6 by decide), u2_row (show (2 : Nat) ≠ 7 by decide), u2_row (show (2 : Nat) ≠ 8 by decide), u2_row (show (2 : Nat) ≠ 9 by decide), u2_row (show (2 : Nat) ≠ 3 by decide), h3, h2, bnd_s, tn_nI (show n < 2 ^ 31 by omega)]
  rw [if_pos (ix_nI hn (by omega)), if_pos (ix_nI hn (by omega)), if_pos (ix_nI hn (by omega)), if_pos (ix_nI hn (by omega)), if_pos (ix_nI hn (by omega)), if_pos (ix_nI hn (by omega))]
  refine (congrArg (fun x => bd x _) e2).trans ?_
  rw [bd_s, g2, Int32.add_sub_cancel]
theorem m_add_no {S : MM} {n : Nat} {x t c : Int32} (h : TS S n) (hq : plc S n x = none ∨ (m_in t 0 5 = 0 ∨ m_in c 0 255 = 0) ∨ n = 24) : m_add S x t c = some (0, u2 S 0 0 (if plc S n x = none then 1 else if m_in t 0 5 = 0 ∨ m_in c 0 255 = 0 then 2 else 3)) := by
  have h24 := h.2.2.1
  unfold m_add
  have e1 : (if m_in t 0 5 = 0 then (0 : Int32) else if m_in c 0 255 = 0 then 0 else 1) = if m_in t 0 5 = 0 ∨ m_in c 0 255 = 0 then 0 else 1 := by
    by_cases q : m_in t 0 5 = 0
    · rw [if_pos q, if_pos (Or.inl q)]
    · rw [if_neg q]
      by_cases q2 : m_in c 0 255 = 0
      · rw [if_pos q2, if_pos (Or.inr q2)]
      · rw [if_neg q2, if_neg (fun z => z.elim q q2)]
  rw [placeOf_p h, bd_s, e1, bnd_s, bnd_s, bnd_s, asked2_s]
  cases hc : plc S n x with
  | none =>
    rw [plI_0, p0_if, if_pos rfl]
    rfl
  | some p =>
    have hpn := (plc_lt hc).1
    rw [plI_s, p1_if (by omega), if_neg (show ¬ some p = none from fun z => by cases z)]
    by_cases q : m_in t 0 5 = 0 ∨ m_in c 0 255 = 0
    · rw [if_pos q, if_pos q]
      unfold c3
      rw [if_10, if_00, if_neg (show ¬ (2 : Int32) = 0 by decide), bd2_s, if_00]
    · rw [if_neg q, if_neg q]
      have hn : n = 24 := by
        rcases hq with z | z | z
        · rw [hc] at z; cases z
        · exact absurd z q
        · exact z
      rw [h.1, hn, if_pos (show (24 : Int32) ≤ nI 24 from Int32.le_refl _)]
      rfl
