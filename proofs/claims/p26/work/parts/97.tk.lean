/-! ===== what is found: the values, over a table (its columns as in 62.zw) ===== -/
def wdY (Y : MM) (q : Nat) : Int32 := if Y q 29 = 0 then 0 else Y q 32
/-- a rule is there for an element, by the widths of the table -/
def thY (S Y : MM) (n r e : Nat) : Prop := fitS S n r e ∧ (S 19 r = -1 ∨ ∃ q, nct S 26 (par S e) = some q ∧ S 19 r ≤ wdY Y q)
/-- as by a word -/
def unY (S Y : MM) (e p : Nat) (w : Int32) : Int32 × Int32 := if w = 0 ∨ w = 2 ∧ 8 ≤ p then (match par S e with
  | none => (m_initial (nI p), -1)
  | some q => (Y q p, Y q (14 + p))) else (m_initial (nI p), -1)
/-- value and rule, by the declaration that tells -/
def tkY (S Y : MM) (e p : Nat) (o : Option Nat) : Int32 × Int32 := match o with
  | none => unY S Y e p 2
  | some r => if S 20 (14 * r + p) = 1 then (S 21 (14 * r + p), nI r) else if S 20 (14 * r + p) = 2 then unY S Y e p (S 21 (14 * r + p)) else
      if Y e (10 + tn (S 21 (14 * r + p))) ≠ -1 ∧ m_canBe (nI p) (Y e (10 + tn (S 21 (14 * r + p)))) = 1 then (Y e (10 + tn (S 21 (14 * r + p))), nI r) else if S 22 (14 * r + p) = -1 then unY S Y e p 2 else (S 22 (14 * r + p), nI r)
/-- the variable that a variable needs -/
def ndS (S : MM) (T : Nat → Option Nat) (v : Nat) : Option Nat := match T (10 + v) with
  | none => none
  | some r => if S 20 (14 * r + (10 + v)) = 3 then some (tn (S 21 (14 * r + (10 + v)))) else none
/-- the values of an element are as they have to be -/
def LEV (S Y : MM) (n R e : Nat) : Prop := ∃ xs : List Nat, (∀ r, r ∈ xs ↔ r < R ∧ thY S Y n r e) ∧ xs.Pairwise (fun a b => stB S a b = true) ∧ xs.length ≤ 16 ∧
  (∀ p, p < 10 → (Y e p, Y e (14 + p)) = tkY S Y e p (cl S p xs (-1))) ∧
  (∀ v, v < 4 → (Y e (10 + v), Y e (24 + v)) = if rgA (ndS S (fun p => cl S p xs (-1))) v 4 v = true then ((-1 : Int32), (-1 : Int32)) else tkY S Y e (10 + v) (cl S (10 + v) xs (-1)))
/-- what is declared -/
def TDo (S : MM) (R : Nat) : Prop := ∀ r p, r < R → p < 14 → S 20 (14 * r + p) = 0 ∨ (S 20 (14 * r + p) = 1 ∧ (m_canBe (nI p) (S 21 (14 * r + p)) = 1 ∨ p < 3 ∧ S 21 (14 * r + p) = -2)) ∨
  (S 20 (14 * r + p) = 2 ∧ ∃ w, w < 4 ∧ S 21 (14 * r + p) = nI w) ∨ (S 20 (14 * r + p) = 3 ∧ ∃ u, u < 4 ∧ S 21 (14 * r + p) = nI u ∧ (S 22 (14 * r + p) = -1 ∨ m_canBe (nI p) (S 22 (14 * r + p)) = 1))
/-! what depends on the told rows alone -/
def TG (S S' : MM) : Prop := ∀ k, 1 ≤ k → k ≤ 22 → S' k = S k
theorem TG_r (S : MM) : TG S S := fun _ _ _ => rfl
theorem TG_t {S S1 S2 : MM} (a : TG S S1) (b : TG S1 S2) : TG S S2 := fun k h1 h2 => (b k h1 h2).trans (a k h1 h2)
theorem TG_s {S S1 : MM} (a : TG S S1) : TG S1 S := fun k h1 h2 => (a k h1 h2).symm
theorem TS_c {S S' : MM} {n : Nat} (g : TG S S') (h : TS S n) : TS S' n := by
  unfold TS at *
  rw [g 3 (by decide) (by decide), g 5 (by decide) (by decide)]
  exact h
theorem par_c {S S' : MM} (g : TG S S') : par S' = par S := funext fun e => by
  unfold par
  rw [g 5 (by decide) (by decide)]
theorem ach_c {S S' : MM} (g : TG S S') : ∀ f e, ach S' f e = ach S f e
  | 0, _ => rfl
  | f + 1, e => by
    unfold ach
    rw [par_c g]
    cases par S e with
    | none => rfl
    | some q =>
      show e :: ach S' f q = e :: ach S f q
      rw [ach_c g f q]
theorem ahS_c {S S' : MM} (g : TG S S') (e : Nat) : ∀ k, ahS S' e k = ahS S e k
  | 0 => rfl
  | k + 1 => by
    unfold ahS
    rw [g 5 (by decide) (by decide), ahS_c g e k]
theorem nct_c {S S' : MM} (g : TG S S') : ∀ f o, nct S' f o = nct S f o
  | 0, _ => rfl
  | _ + 1, none => rfl
  | f + 1, some q => by
    show (if S' 9 q = 0 then nct S' f (par S' q) else some q) = (if S 9 q = 0 then nct S f (par S q) else some q)
    rw [g 9 (by decide) (by decide), par_c g, nct_c g f]
theorem pl_c {S S' : MM} (g : TG S S') : pl S' = pl S := funext fun q => funext fun e => by
  unfold pl
  rw [g 13 (by decide) (by decide), g 6 (by decide) (by decide), g 7 (by decide) (by decide), g 14 (by decide) (by decide), g 15 (by decide) (by decide)]
theorem ldS_c {S S' : MM} (g : TG S S') : ldS S' = ldS S := funext fun w => funext fun e => funext fun f => by
  unfold ldS
  rw [par_c g, ach_c g, ahS_c g]
theorem fitS_c {S S' : MM} (g : TG S S') : fitS S' = fitS S := funext fun n => funext fun r => funext fun e => by
  unfold fitS
  rw [pl_c g, ldS_c g, g 11 (by decide) (by decide), g 12 (by decide) (by decide)]
theorem RTo_c {S S' : MM} {R : Nat} (g : TG S S') (h : RTo S R) : RTo S' R := by
  unfold RTo RSo at *
  rw [g 10 (by decide) (by decide), g 11 (by decide) (by decide), g 14 (by decide) (by decide), g 15 (by decide) (by decide), g 16 (by decide) (by decide), g 17 (by decide) (by decide), g 18 (by decide) (by decide)]
  exact h
theorem gS_c {S S' : MM} (g : TG S S') : gS S' = gS S := funext fun r => by
  unfold gS
  rw [g 16 (by decide) (by decide), g 17 (by decide) (by decide), g 18 (by decide) (by decide)]
theorem wtS_c {S S' : MM} (g : TG S S') (r : Nat) : ∀ k, wtS S' r k = wtS S r k
  | 0 => rfl
  | k + 1 => by
    show wtS S' r k + ptW S' (3 * r + k) = wtS S r k + ptW S (3 * r + k)
    unfold ptW
    rw [wtS_c g r k, g 13 (by decide) (by decide), g 14 (by decide) (by decide), g 15 (by decide) (by decide)]
theorem stB_c {S S' : MM} (g : TG S S') : stB S' = stB S := funext fun r => funext fun q => by
  unfold stB wS
  rw [gS_c g, wtS_c g, wtS_c g, g 11 (by decide) (by decide)]
theorem cl_c {S S' : MM} (g : TG S S') (p : Nat) : ∀ xs t, cl S' p xs t = cl S p xs t
  | [], _ => rfl
  | r :: rs, t => by
    unfold cl
    rw [gS_c g, g 20 (by decide) (by decide), g 21 (by decide) (by decide), cl_c g p rs, cl_c g p rs]
theorem TDo_c {S S' : MM} {R : Nat} (g : TG S S') (h : TDo S R) : TDo S' R := by
  unfold TDo at *
  rw [g 20 (by decide) (by decide), g 21 (by decide) (by decide), g 22 (by decide) (by decide)]
  exact h
theorem unY_c {S S' : MM} (g : TG S S') (Y : MM) (e p : Nat) (w : Int32) : unY S' Y e p w = unY S Y e p w := by
  unfold unY
  rw [par_c g]
theorem tkY_c {S S' : MM} (g : TG S S') (Y : MM) (e p : Nat) (o : Option Nat) : tkY S' Y e p o = tkY S Y e p o := by
  unfold tkY
  cases o with
  | none => exact unY_c g Y e p 2
  | some r =>
    show (if S' 20 (14 * r + p) = 1 then _ else _) = (if S 20 (14 * r + p) = 1 then _ else _)
    rw [g 20 (by decide) (by decide), g 21 (by decide) (by decide), g 22 (by decide) (by decide), unY_c g, unY_c g]
theorem ndS_c {S S' : MM} (g : TG S S') (T : Nat → Option Nat) : ndS S' T = ndS S T := funext fun v => by
  unfold ndS
  rw [g 20 (by decide) (by decide), g 21 (by decide) (by decide)]
theorem thS_c {S S' : MM} {n r e : Nat} (g : TG S S') (h28 : S' 28 = S 28) (h25 : S' 25 = S 25) : thS S' n r e ↔ thS S n r e := by
  unfold thS wdS
  rw [fitS_c g, par_c g, nct_c g, g 19 (by decide) (by decide), h28, h25]
/-! ===== the model's functions: takesValue ===== -/
/-- one value and its rule written -/
def Wr (S S' : MM) (i : Nat) (x : Int32 × Int32) : Prop := (∀ j, S' 23 j = if j = i then x.1 else S 23 j) ∧ (∀ j, S' 24 j = if j = i then x.2 else S 24 j) ∧ ∀ k, k ≠ 23 → k ≠ 24 → S' k = S k
theorem Wr_u (S : MM) (i : Nat) (x y : Int32) : Wr S (u2 (u2 S 23 i x) 24 i y) i (x, y) := by
  refine ⟨fun j => ?_, fun j => ?_, fun k h1 h2 => ?_⟩
  · rw [u2_row (by decide)]
    by_cases q : j = i
    · rw [q, u2_self, if_pos rfl]
    · rw [u2_ne (fun z => q z.2), if_neg q]
  · by_cases q : j = i
    · rw [q, u2_self, if_pos rfl]
    · rw [u2_ne (fun z => q z.2), if_neg q, u2_row (by decide)]
  · funext j
    rw [u2_row h2, u2_row h1]
theorem Wr_t {S S1 S2 : MM} {i : Nat} {x y : Int32 × Int32} (a : Wr S S1 i x) (b : Wr S1 S2 i y) : Wr S S2 i y := by
  refine ⟨fun j => ?_, fun j => ?_, fun k h1 h2 => (b.2.2 k h1 h2).trans (a.2.2 k h1 h2)⟩
  · rw [b.1, a.1]
    by_cases q : j = i
    · rw [if_pos q, if_pos q]
    · rw [if_neg q, if_neg q, if_neg q]
  · rw [b.2.1, a.2.1]
    by_cases q : j = i
    · rw [if_pos q, if_pos q]
    · rw [if_neg q, if_neg q, if_neg q]
theorem Wr_TG {S S' : MM} {i : Nat} {x : Int32 × Int32} (a : Wr S S' i x) : TG S S' := fun k _ h => a.2.2 k (by omega) (by omega)
theorem par_S {S : MM} {n e : Nat} (h : TS S n) (he : e < n) : S 5 e = eo (par S e) ∧ ∀ q, par S e = some q → q < e ∧ q < n := by
  by_cases q0 : e = 0
  · subst q0
    rw [h.2.2.2.1, par_0 h]
    exact ⟨rfl, fun q z => nomatch z⟩
  · obtain ⟨y, y1, y2, y3⟩ := par_s h (by omega) he
    rw [y2, y3]
    exact ⟨rfl, fun q z => by cases z; exact ⟨y1, by omega⟩⟩
theorem unset_s {S Y : MM} {n e p : Nat} {w : Int32} (h : TS S n) (he : e < n) (hp : p < 14) (hq : ∀ q, par S e = some q → S 23 (14 * q + p) = Y q p ∧ S 24 (14 * q + p) = Y q (14 + p)) :
    ∃ S', m_unset S (nI e) (nI p) w = some S' ∧ Wr S S' (14 * e + p) (unY S Y e p w) := by
  have h24 := h.2.2.1
  have hi : 14 * e + p < 336 := by omega
  obtain ⟨e5, h5⟩ := par_S h he
  have e6 : (if w = 0 then (1 : Int32) else if w = 2 then if nI p < 8 then (0 : Int32) else 1 else 0) = if w = 0 ∨ w = 2 ∧ 8 ≤ p then 1 else 0 := by
    have e8 : nI p < 8 ↔ p < 8 := nI_ltI (b := 8) (by omega) (by decide)
    by_cases a : w = 0
    · rw [if_pos a, if_pos (Or.inl a)]
    · rw [if_neg a]
      by_cases b : w = 2
      · rw [if_pos b]
        by_cases c : p < 8
        · rw [if_pos (e8.mpr c), if_neg (fun z => z.elim a (fun z => by omega))]
        · rw [if_neg (fun z => c (e8.mp z)), if_pos (Or.inr ⟨b, by omega⟩)]
      · rw [if_neg b, if_neg (fun z => z.elim a (fun z => b z.1))]
  unfold m_unset
  rw [nx14, nI_add, bnd_s, e6, bnd_s]
  simp only [tn_nI (show e < 2 ^ 31 by omega), tn_nI (show 14 * e + p < 2 ^ 31 by omega), e5]
  unfold unY
  have hno : ∀ z : Int32, z = 0 → (if (¬ (z = 0) → (ix (nI e) 24 ∧ ix (14 * eo (par S e) + nI p) 336)) then bnd (if z = 0 then m_initial (nI p) else S 23 (tn (14 * eo (par S e) + nI p))) fun p18 => if ix (nI (14 * e + p)) 336 then bnd (u2 S 23 (14 * e + p) p18) fun S19 => (if (¬ (z = 0) → (ix (nI e) 24 ∧ ix (14 * S19 5 e + nI p) 336)) then bnd (if z = 0 then (-1 : Int32) else S19 24 (tn (14 * S19 5 e + nI p))) fun p26 => bnd (u2 S19 24 (14 * e + p) p26) fun S27 => some S27 else none) else none else none) = some (u2 (u2 S 23 (14 * e + p) (m_initial (nI p))) 24 (14 * e + p) (-1)) := fun z hz => by
    subst hz
    rw [if_pos (fun z => absurd rfl z), if_pos rfl, bnd_s, if_pos (ix_nI hi (by omega)), bnd_s, if_pos (fun z => absurd rfl z), if_pos rfl, bnd_s, bnd_s]
  by_cases c : w = 0 ∨ w = 2 ∧ 8 ≤ p
  · rw [if_pos c, if_pos c, if_pos (fun _ => ix_nI (by omega) (by omega)), if_neg (by decide)]
    cases hpa : par S e with
    | none =>
      rw [hpa] at hno
      rw [bnd_s, if_pos (show eo none = -1 from rfl)]
      exact ⟨_, hno 0 rfl, Wr_u _ _ _ _⟩
    | some q =>
      obtain ⟨q1, q2⟩ := h5 q hpa
      obtain ⟨v1, v2⟩ := hq q hpa
      have hj : 14 * q + p < 336 := by omega
      rw [bnd_s, if_neg (show ¬ eo (some q) = -1 from nI_ne1 (by omega)), show eo (some q) = nI q from rfl, nx14, nI_add, if_pos (fun _ => ⟨ix_nI (by omega) (by omega), ix_nI hj (by omega)⟩), if_neg (by decide), bnd_s, if_pos (ix_nI hi (by omega)), bnd_s, u2_row (by decide), e5, hpa, show eo (some q) = nI q from rfl, nx14, nI_add, if_pos (fun _ => ⟨ix_nI (by omega) (by omega), ix_nI hj (by omega)⟩), if_neg (by decide), bnd_s, bnd_s, tn_nI (by omega), u2_row (by decide), v1, v2]
      exact ⟨_, rfl, Wr_u _ _ _ _⟩
  · rw [if_neg c, if_neg c, if_pos (fun z => absurd rfl z), if_pos rfl, bnd_s]
    exact ⟨_, hno 0 rfl, Wr_u _ _ _ _⟩
theorem takes_s {S Y : MM} {n R e p : Nat} {o : Option Nat} (h : TS S n) (hR : R ≤ 16) (hD : TDo S R) (he : e < n) (hp : p < 14) (ho : ∀ r, o = some r → r < R ∧ S 20 (14 * r + p) ≠ 0) (hq : ∀ q, par S e = some q → S 23 (14 * q + p) = Y q p ∧ S 24 (14 * q + p) = Y q (14 + p))
    (hv : ∀ r u, o = some r → S 20 (14 * r + p) = 3 → S 21 (14 * r + p) = nI u → u < 4 → S 23 (14 * e + (10 + u)) = Y e (10 + u)) :
    ∃ S', m_takesValue S (nI e) (nI p) (eo o) = some S' ∧ Wr S S' (14 * e + p) (tkY S Y e p o) := by
  have h24 := h.2.2.1
  have hi : 14 * e + p < 336 := by omega
  unfold m_takesValue
  rw [nx14, nI_add, bnd_s]
  cases o with
  | none =>
    obtain ⟨S', s1, s2⟩ := unset_s (w := 2) h he hp hq
    rw [show eo none = -1 from rfl, if_pos rfl, bnd_s, bnd_s, if_pos rfl, s1, bd_s]
    exact ⟨S', rfl, s2⟩
  | some r =>
    obtain ⟨r1, r2⟩ := ho r rfl
    have hj : 14 * r + p < 224 := by omega
    rw [show eo (some r) = nI r from rfl, if_neg (nI_ne1 (by omega)), bnd_s, nx14, nI_add, bnd_s, if_neg (nI_ne1 (by omega)), if_pos (ix_nI hj (by omega))]
    simp only [tn_nI (show 14 * r + p < 2 ^ 31 by omega), tn_nI (show 14 * e + p < 2 ^ 31 by omega)]
    unfold tkY
    show ∃ S', _ = some S' ∧ Wr S S' (14 * e + p) (if S 20 (14 * r + p) = 1 then _ else _)
    by_cases k1 : S 20 (14 * r + p) = 1
    · rw [if_pos k1, if_pos k1, if_pos (ix_nI hi (by omega)), bnd_s, bnd_s]
      exact ⟨_, rfl, Wr_u _ _ _ _⟩
    · rw [if_neg k1, if_neg k1]
      by_cases k2 : S 20 (14 * r + p) = 2
      · obtain ⟨S', s1, s2⟩ := unset_s (w := S 21 (14 * r + p)) h he hp hq
        rw [if_pos k2, if_pos k2, s1, bd_s]
        exact ⟨S', rfl, s2⟩
      · rw [if_neg k2, if_neg k2]
        rcases hD r p r1 hp with z | ⟨z, -⟩ | ⟨z, -⟩ | ⟨k3, u, u1, u2', u3⟩
        · exact absurd z r2
        · exact absurd z k1
        · exact absurd z k2
        · have hv' := hv r u rfl k3 u2' u1
          have hk : 14 * e + (10 + u) < 336 := by omega
          rw [u2', nI_plus (14 * e) 10 10 rfl, nI_add, show 14 * e + 10 + u = 14 * e + (10 + u) by omega, if_pos (ix_nI hk (by omega)), tn_nI (show 14 * e + (10 + u) < 2 ^ 31 by omega), hv', bnd_s, tn_nI (show u < 2 ^ 31 by omega)]
          have hc : (if Y e (10 + u) = -1 then (0 : Int32) else if m_canBe (nI p) (Y e (10 + u)) = 0 then 0 else 1) = if Y e (10 + u) ≠ -1 ∧ m_canBe (nI p) (Y e (10 + u)) = 1 then 1 else 0 := by
            by_cases a : Y e (10 + u) = -1
            · rw [if_pos a, if_neg (fun z => z.1 a)]
            · rw [if_neg a]
              rcases b_canBe (a0 := nI p) (a1 := Y e (10 + u)) with b | b
              · rw [if_pos b, if_neg (fun z => by rw [b] at z; exact absurd z.2 (by decide))]
              · rw [if_neg (by rw [b]; decide), if_pos ⟨a, b⟩]
          rw [hc]
          by_cases c : Y e (10 + u) ≠ -1 ∧ m_canBe (nI p) (Y e (10 + u)) = 1
          · rw [if_pos c, if_pos c, bnd_s, if_neg (by decide), bnd_s, if_pos (ix_nI hi (by omega)), bnd_s, bnd_s, if_neg (by decide)]
            exact ⟨_, rfl, Wr_u _ _ _ _⟩
          · rw [if_neg c, if_neg c, bnd_s, if_pos rfl, bnd_s, if_pos (ix_nI hi (by omega)), bnd_s, bnd_s, if_pos rfl, u2_row (by decide), u2_row (by decide)]
            by_cases d : S 22 (14 * r + p) = -1
            · have W0 := Wr_u S (14 * e + p) (S 22 (14 * r + p)) (nI r)
              obtain ⟨S', s1, s2⟩ := unset_s (S := u2 (u2 S 23 (14 * e + p) (S 22 (14 * r + p))) 24 (14 * e + p) (nI r)) (Y := Y) (w := 2) (TS_c (Wr_TG W0) h) he hp (fun q hpq => by
                rw [par_c (Wr_TG W0)] at hpq
                have := ((par_S h he).2 q hpq).1
                rw [W0.1, W0.2.1, if_neg (by omega), if_neg (by omega)]
                exact hq q hpq)
              rw [if_pos d, if_pos d, s1, bd_s]
              rw [unY_c (Wr_TG W0)] at s2
              exact ⟨S', rfl, Wr_t W0 s2⟩
            · rw [if_neg d, if_neg d]
              exact ⟨_, rfl, Wr_u _ _ _ _⟩
