/-! ===== the model's functions: whether a rule is there ===== -/
theorem bnd_s {α β : Type} (e : α) (f : α → β) : bnd e f = f e := rfl
/-- the nearest container from a place on upwards -/
def nct (S : MM) : Nat → Option Nat → Option Nat
  | 0, _ => none
  | _ + 1, none => none
  | f + 1, some q => if S 9 q = 0 then nct S f (par S q) else some q
theorem isThere_l {S : MM} {n : Nat} (h : TS S n) {K : Int32 → Option Int32} : ∀ (f : Nat) (o : Option Nat), (∀ q, o = some q → q < n ∧ q + 1 < f) → 1 ≤ f → ∀ fu, f ≤ fu → m_isThere_30 K S fu (eo o) = K (eo (nct S f o)) := by
  have h24 := h.2.2.1
  intro f
  induction f with
  | zero => exact fun _ _ z => absurd z (by decide)
  | succ f ih =>
    intro o ho _ fu hfu
    obtain ⟨fu, rfl⟩ : ∃ z, fu = z + 1 := ⟨fu - 1, by omega⟩
    cases o with
    | none =>
      show m_isThere_30 K S (fu + 1) (-1) = K (-1)
      rw [m_isThere_30, if_pos rfl]
    | some q =>
      obtain ⟨q1, q2⟩ := ho q rfl
      have eF : m_isThere_30 K S (fu + 1) (nI q) = (if nI q = -1 then K (nI q) else (if ix (nI q) 24 then (if S 9 (tn (nI q)) = 0 then m_isThere_30 K S fu (S 5 (tn (nI q))) else K (nI q)) else none)) := rfl
      show m_isThere_30 K S (fu + 1) (nI q) = K (eo (if S 9 q = 0 then nct S f (par S q) else some q))
      rw [eF, if_neg (nI_ne1 (by omega)), if_pos (ix_nI (by omega) (by omega)), tn_nI (by omega)]
      by_cases z : S 9 q = 0
      · rw [if_pos z, if_pos z]
        by_cases q0 : q = 0
        · subst q0
          have := ih none (fun _ x => nomatch x) (by omega) fu (by omega)
          rw [h.2.2.2.1, par_0 h]
          exact this
        · obtain ⟨p, p1, p2, p3⟩ := par_s h (by omega) q1
          have := ih (some p) (fun x hx => by cases hx; exact ⟨by omega, by omega⟩) (by omega) fu (by omega)
          rw [p2, p3]
          exact this
      · rw [if_neg z, if_neg z]
        rfl
theorem nct_lt {S : MM} {n : Nat} (h : TS S n) : ∀ (f : Nat) (o : Option Nat), (∀ q, o = some q → q < n) → ∀ q, nct S f o = some q → q < n := by
  intro f
  induction f with
  | zero => exact fun _ _ q z => nomatch z
  | succ f ih =>
    intro o ho q hq
    cases o with
    | none => cases hq
    | some p =>
      have hq' : (if S 9 p = 0 then nct S f (par S p) else some p) = some q := hq
      by_cases z : S 9 p = 0
      · rw [if_pos z] at hq'
        refine ih (par S p) (fun x hx => ?_) q hq'
        have hp := ho p rfl
        by_cases q0 : p = 0
        · subst q0
          rw [par_0 h] at hx
          cases hx
        · obtain ⟨y, y1, y2, y3⟩ := par_s h (by omega) hp
          rw [y3] at hx
          cases hx
          omega
      · rw [if_neg z] at hq'
        cases hq'
        exact ho q rfl
/-- the width that a container tells -/
def wdS (S : MM) (q : Nat) : Int32 := if S 28 q = 0 then 0 else S 25 (4 * q + 2)
/-- a rule is there for an element -/
def thS (S : MM) (n r e : Nat) : Prop := fitS S n r e ∧ (S 19 r = -1 ∨ ∃ q, nct S 26 (par S e) = some q ∧ S 19 r ≤ wdS S q)
theorem isThere_s {S : MM} {n R r e : Nat} (h : TS S n) (hR : R ≤ 16) (he : e < n) (hr : r < R) : ∃ v, m_isThere S (nI r) (nI e) = some v ∧ (v = 1 ↔ thS S n r e) ∧ (v = 0 ∨ v = 1) := by
  have h24 := h.2.2.1
  obtain ⟨u, u1, u2, u3⟩ := isFit_s h he (r := r) (by omega)
  unfold m_isThere thS
  rw [u1, bd_s]
  by_cases u0 : u = 0
  · rw [if_pos u0]
    exact ⟨0, rfl, ⟨fun x => absurd x (by decide), fun x => absurd (u2.mpr x.1) (by rw [u0]; decide)⟩, Or.inl rfl⟩
  · have hf := u2.mp (b01_ne u3 u0)
    have tr : tn (nI r) = r := tn_nI (by omega)
    rw [if_neg u0, if_pos (ix_nI (by omega) (by omega))]
    by_cases l1 : S 19 r = -1
    · rw [if_pos (show S 19 (tn (nI r)) = -1 by rw [tr]; exact l1)]
      exact ⟨1, rfl, ⟨fun _ => ⟨hf, Or.inl l1⟩, fun _ => rfl⟩, Or.inr rfl⟩
    · rw [if_neg (show ¬ S 19 (tn (nI r)) = -1 by rw [tr]; exact l1), if_pos (ix_nI (by omega) (by omega))]
      have e5 : S 5 (tn (nI e)) = eo (par S e) := by
        rw [tn_nI (by omega)]
        by_cases q0 : e = 0
        · subst q0
          rw [h.2.2.2.1, par_0 h]
          rfl
        · obtain ⟨y, y1, y2, y3⟩ := par_s h (by omega) he
          rw [y2, y3]
          rfl
      have hb : ∀ q, par S e = some q → q < n ∧ q + 1 < 26 := fun q hq => by
        by_cases q0 : e = 0
        · subst q0
          rw [par_0 h] at hq
          cases hq
        · obtain ⟨y, y1, y2, y3⟩ := par_s h (by omega) he
          rw [y3] at hq
          cases hq
          exact ⟨by omega, by omega⟩
      rw [e5, bnd_s, isThere_l h 26 (par S e) hb (by omega) 1000 (by omega)]
      cases hc : nct S 26 (par S e) with
      | none =>
        refine ⟨0, ?_, ⟨fun x => absurd x (by decide), fun x => ?_⟩, Or.inl rfl⟩
        · show (if (¬ (eo none = -1) → (ix (eo none) 24 ∧ (¬ (S 28 (tn (eo none)) = 0) → ix (4 * eo none + 2) 96) ∧ ix (nI r) 16)) then some (if eo none = -1 then (0 : Int32) else if (if S 28 (tn (eo none)) = 0 then (0 : Int32) else S 25 (tn (4 * eo none + 2))) < S 19 (tn (nI r)) then (0 : Int32) else (1 : Int32)) else none) = some 0
          rw [if_pos (fun z => absurd (show eo none = -1 from rfl) z), if_pos (show eo none = -1 from rfl)]
        · rcases x.2 with y | ⟨q, y, -⟩
          · exact absurd y l1
          · cases y
      | some q =>
        have hq : q < n := nct_lt h 26 (par S e) (fun x hx => (hb x hx).1) q hc
        have e4 : (4 : Int32) * nI q + 2 = nI (4 * q + 2) := by rw [show (4 : Int32) * nI q = nI (4 * q) from (Int32.ofNat_mul 4 q).symm, nI_plus _ 2 2 rfl]
        show ∃ v, (if (¬ (nI q = -1) → (ix (nI q) 24 ∧ (¬ (S 28 (tn (nI q)) = 0) → ix (4 * nI q + 2) 96) ∧ ix (nI r) 16)) then some (if nI q = -1 then (0 : Int32) else if (if S 28 (tn (nI q)) = 0 then (0 : Int32) else S 25 (tn (4 * nI q + 2))) < S 19 (tn (nI r)) then (0 : Int32) else (1 : Int32)) else none) = some v ∧ _
        rw [if_pos (fun _ => ⟨ix_nI (by omega) (by omega), fun _ => by rw [e4]; exact ix_nI (by omega) (by omega), ix_nI (by omega) (by omega)⟩), if_neg (nI_ne1 (by omega)), e4, tr, tn_nI (show q < 2 ^ 31 by omega), tn_nI (show 4 * q + 2 < 2 ^ 31 by omega)]
        show ∃ v, some (if wdS S q < S 19 r then (0 : Int32) else 1) = some v ∧ _
        by_cases z : wdS S q < S 19 r
        · rw [if_pos z]
          refine ⟨0, rfl, ⟨fun x => absurd x (by decide), fun x => ?_⟩, Or.inl rfl⟩
          rcases x.2 with y | ⟨p, y, y2⟩
          · exact absurd y l1
          · cases y
            exact absurd y2 (Int32.not_le.mpr z)
        · rw [if_neg z]
          exact ⟨1, rfl, ⟨fun _ => ⟨hf, Or.inr ⟨q, rfl, Int32.not_lt.mp z⟩⟩, fun _ => rfl⟩, Or.inr rfl⟩
