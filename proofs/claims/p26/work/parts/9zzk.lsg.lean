/-! ===== the least and the greatest of a kind; the links of the told tree ===== -/
def LsO (P : Nat → Prop) (a b : Nat) (o : Option Nat) : Prop := match o with
  | none => ∀ c, a ≤ c → c < b → ¬ P c
  | some c => a ≤ c ∧ c < b ∧ P c ∧ ∀ d, a ≤ d → d < c → ¬ P d
def GsO (P : Nat → Prop) (b : Nat) (o : Option Nat) : Prop := match o with
  | none => ∀ c, c < b → ¬ P c
  | some c => c < b ∧ P c ∧ ∀ d, c < d → d < b → ¬ P d
theorem LsO_u {P : Nat → Prop} {a b : Nat} {o o' : Option Nat} (h : LsO P a b o) (g : LsO P a b o') : o = o' := by
  cases o with
  | none =>
    cases o' with
    | none => rfl
    | some d => exact absurd g.2.2.1 (h d g.1 g.2.1)
  | some c =>
    cases o' with
    | none => exact absurd h.2.2.1 (g c h.1 h.2.1)
    | some d =>
      rcases Nat.lt_trichotomy c d with q | q | q
      · exact absurd h.2.2.1 (g.2.2.2 c h.1 q)
      · rw [q]
      · exact absurd g.2.2.1 (h.2.2.2 d g.1 q)
theorem GsO_u {P : Nat → Prop} {b : Nat} {o o' : Option Nat} (h : GsO P b o) (g : GsO P b o') : o = o' := by
  cases o with
  | none =>
    cases o' with
    | none => rfl
    | some d => exact absurd g.2.1 (h d g.1)
  | some c =>
    cases o' with
    | none => exact absurd h.2.1 (g c h.1)
    | some d =>
      rcases Nat.lt_trichotomy c d with q | q | q
      · exact absurd g.2.1 (h.2.2 d q g.1)
      · rw [q]
      · exact absurd h.2.1 (g.2.2 c q h.1)
theorem LsO_c {P Q : Nat → Prop} {a b : Nat} {o : Option Nat} (e : ∀ c, a ≤ c → c < b → (P c ↔ Q c)) (h : LsO P a b o) : LsO Q a b o := by
  cases o with
  | none => exact fun c h1 h2 h3 => h c h1 h2 ((e c h1 h2).mpr h3)
  | some c =>
    obtain ⟨h1, h2, h3, h4⟩ := h
    exact ⟨h1, h2, (e c h1 h2).mp h3, fun d d1 d2 d3 => h4 d d1 d2 ((e d d1 (by omega)).mpr d3)⟩
theorem GsO_c {P Q : Nat → Prop} {b : Nat} {o : Option Nat} (e : ∀ c, c < b → (P c ↔ Q c)) (h : GsO P b o) : GsO Q b o := by
  cases o with
  | none => exact fun c h1 h3 => h c h1 ((e c h1).mpr h3)
  | some c =>
    obtain ⟨h2, h3, h4⟩ := h
    exact ⟨h2, (e c h2).mp h3, fun d d1 d2 d3 => h4 d d1 d2 ((e d d2).mpr d3)⟩
theorem LsO_fr {P : Nat → Bool} : ∀ (m a : Nat), LsO (fun c => P c = true) a (a + m) ((List.range' a m).find? P)
  | 0, a => fun c h1 h2 => absurd h2 (by omega)
  | m + 1, a => by
    have ih := LsO_fr (P := P) m (a + 1)
    rw [show a + 1 + m = a + (m + 1) by omega] at ih
    rw [List.range'_succ, List.find?_cons]
    cases hp : P a with
    | true => exact ⟨Nat.le_refl a, by omega, hp, fun d h1 h2 => absurd h2 (by omega)⟩
    | false =>
      show LsO (fun c => P c = true) a (a + (m + 1)) ((List.range' (a + 1) m).find? P)
      cases ho : (List.range' (a + 1) m).find? P with
      | none =>
        rw [ho] at ih
        intro c h1 h2 h3
        rcases Nat.eq_or_lt_of_le h1 with q | q
        · subst q
          have h3 : P a = true := h3
          rw [hp] at h3
          cases h3
        · exact ih c q h2 h3
      | some c =>
        rw [ho] at ih
        obtain ⟨i1, i2, i3, i4⟩ := ih
        refine ⟨by omega, i2, i3, fun d h1 h2 h3 => ?_⟩
        rcases Nat.eq_or_lt_of_le h1 with q | q
        · subst q
          have h3 : P a = true := h3
          rw [hp] at h3
          cases h3
        · exact i4 d q h2 h3
theorem LsO_hd {P : Nat → Bool} (n : Nat) : LsO (fun c => P c = true) 0 n (((List.range n).filter P).head?) := by
  have h := LsO_fr (P := P) n 0
  rw [Nat.zero_add] at h
  rw [head_flt, List.range_eq_range']
  exact h
theorem GsO_gl {P : Nat → Bool} : ∀ n, GsO (fun c => P c = true) n (((List.range n).filter P).getLast?)
  | 0 => fun c h => absurd h (Nat.not_lt_zero c)
  | n + 1 => by
    have ih := GsO_gl (P := P) n
    rw [List.range_succ, List.filter_append, List.filter_cons]
    by_cases q : P n = true
    · rw [if_pos q]
      have e : ((List.range n).filter P ++ [n]).getLast? = some n := by simp
      show GsO (fun c => P c = true) (n + 1) (((List.range n).filter P ++ [n]).getLast?)
      rw [e]
      exact ⟨Nat.lt_succ_self n, q, fun d h1 h2 => absurd h2 (by omega)⟩
    · rw [if_neg q]
      show GsO (fun c => P c = true) (n + 1) (((List.range n).filter P ++ []).getLast?)
      rw [List.append_nil]
      cases ho : ((List.range n).filter P).getLast? with
      | none =>
        rw [ho] at ih
        intro c h1 h2
        by_cases z : c = n
        · subst z
          exact q h2
        · exact ih c (by omega) h2
      | some c =>
        rw [ho] at ih
        obtain ⟨i1, i2, i3⟩ := ih
        refine ⟨by omega, i2, fun d h1 h2 h3 => ?_⟩
        by_cases z : d = n
        · subst z
          exact q h3
        · exact i3 d h1 (by omega) h3
theorem ah_g {S : MM} {e : Nat} : ∀ k, GsO (fun c => S 5 c = S 5 e) k (ahS S e k)
  | 0 => fun c h => absurd h (Nat.not_lt_zero c)
  | k + 1 => by
    have ih := ah_g (S := S) (e := e) k
    unfold ahS
    by_cases q : S 5 k = S 5 e
    · rw [if_pos q]
      exact ⟨Nat.lt_succ_self k, q, fun d h1 h2 => absurd h2 (by omega)⟩
    · rw [if_neg q]
      cases ho : ahS S e k with
      | none =>
        rw [ho] at ih
        intro c h1 h2
        by_cases z : c = k
        · subst z
          exact q h2
        · exact ih c (by omega) h2
      | some c =>
        rw [ho] at ih
        obtain ⟨i1, i2, i3⟩ := ih
        refine ⟨by omega, i2, fun d h1 h2 h3 => ?_⟩
        by_cases z : d = k
        · subst z
          exact q h3
        · exact i3 d h1 (by omega) h3
/-- the children of one -/
def sib (S : MM) (q c : Nat) : Prop := par S c = some q
theorem sib_d {S : MM} {q c : Nat} : decide (par S c = some q) = true ↔ sib S q c := decide_eq_true_iff (p := par S c = some q)
theorem sib_5 {S : MM} {n c e q : Nat} (h : TS S n) (hc : c < n) (he : e < n) (hp : par S e = some q) : S 5 c = S 5 e ↔ sib S q c := by
  unfold sib
  constructor
  · intro z
    rw [← hp]
    unfold par
    rw [z]
  · intro z
    rw [(par_S h hc).1, (par_S h he).1, z, hp]
theorem ah_G {S : MM} {n e q : Nat} (h : TS S n) (he : e < n) (hp : par S e = some q) : GsO (sib S q) e (ahS S e e) :=
  GsO_c (fun _ hc => sib_5 h (by omega) he hp) (ah_g e)
theorem nx_L {S : MM} {n e q : Nat} (he : e < n) (hp : par S e = some q) : LsO (sib S q) (e + 1) n (nxS S n e) := by
  have h := LsO_fr (P := fun c => decide (par S c = some q)) (n - (e + 1)) (e + 1)
  rw [show e + 1 + (n - (e + 1)) = n by omega] at h
  unfold nxS
  rw [hp]
  exact LsO_c (fun c _ _ => sib_d) h
theorem hd_L {S : MM} (n e : Nat) : LsO (sib S e) 0 n ((chl S n e).head?) :=
  LsO_c (fun c _ _ => sib_d) (LsO_hd (P := fun c => decide (par S c = some e)) n)
theorem gl_G {S : MM} (n e : Nat) : GsO (sib S e) n ((chl S n e).getLast?) :=
  GsO_c (fun c _ => sib_d) (GsO_gl (P := fun c => decide (par S c = some e)) n)
theorem nx_0 {S : MM} {n e : Nat} (hp : par S e = none) : nxS S n e = none := by
  unfold nxS
  rw [hp]
theorem par_n {S : MM} {n e : Nat} (h : TS S n) (he : e < n) (hp : par S e = none) : e = 0 := by
  rcases Nat.eq_zero_or_pos e with z | z
  · exact z
  · obtain ⟨q, _, _, y⟩ := par_s h z he
    rw [hp] at y
    cases y
