/-! ===== one more element: what is told of the tree ===== -/
theorem LsO_x {P Q : Nat → Prop} {a n : Nat} {o : Option Nat} (e : ∀ c, c < n → (P c ↔ Q c)) (hn : ¬ Q n) (h : LsO P a n o) : LsO Q a (n + 1) o := by
  cases o with
  | none =>
    intro c h1 h2 h3
    by_cases z : c = n
    · subst z
      exact hn h3
    · exact h c h1 (by omega) ((e c (by omega)).mpr h3)
  | some c =>
    obtain ⟨h1, h2, h3, h4⟩ := h
    exact ⟨h1, by omega, (e c h2).mp h3, fun d d1 d2 d3 => h4 d d1 d2 ((e d (by omega)).mpr d3)⟩
theorem GsO_x {P Q : Nat → Prop} {n : Nat} {o : Option Nat} (e : ∀ c, c < n → (P c ↔ Q c)) (hn : ¬ Q n) (h : GsO P n o) : GsO Q (n + 1) o := by
  cases o with
  | none =>
    intro c h2 h3
    by_cases z : c = n
    · subst z
      exact hn h3
    · exact h c (by omega) ((e c (by omega)).mpr h3)
  | some c =>
    obtain ⟨h2, h3, h4⟩ := h
    refine ⟨by omega, (e c h2).mp h3, fun d d1 d2 d3 => ?_⟩
    by_cases z : d = n
    · subst z
      exact hn d3
    · exact h4 d d1 (by omega) ((e d (by omega)).mpr d3)
theorem omap_c {f g : Nat → Nat} {o : Option Nat} (h : ∀ c, o = some c → f c = g c) : o.map f = o.map g := by
  cases o with
  | none => rfl
  | some c => exact congrArg some (h c rfl)
theorem tAdd_o {S : MM} {n p : Nat} {t c : Int32} {k : Nat} (h : k < 2 ∨ 9 < k) : tAdd S n p t c k = S k := funext fun j => by
  rw [tAdd_e, u2_row (by omega), u2_row (by omega), u2_row (by omega), u2_row (by omega), u2_row (by omega), u2_row (by omega), u2_row (by omega), u2_row (by omega)]
theorem tAdd_l {S : MM} {n p : Nat} {t c : Int32} {k a : Nat} (h : 4 ≤ k) (ha : a ≠ n) : tAdd S n p t c k a = S k a := by
  rw [tAdd_e, u2_row (by omega), u2_row (by omega), u2_ne (fun z => ha z.2), u2_ne (fun z => ha z.2), u2_ne (fun z => ha z.2), u2_ne (fun z => ha z.2), u2_ne (fun z => ha z.2), u2_ne (fun z => ha z.2)]
theorem tAdd_n {S : MM} {n p : Nat} {t c : Int32} : (tAdd S n p t c 4 n = S 2 0 ∧ tAdd S n p t c 5 n = nI p ∧ tAdd S n p t c 6 n = t ∧ tAdd S n p t c 7 n = c ∧ tAdd S n p t c 8 n = 0 ∧ tAdd S n p t c 9 n = 0) ∧ tAdd S n p t c 3 0 = nI n + 1 ∧ tAdd S n p t c 2 0 = S 2 0 + 1 := by
  rw [tAdd_e]
  refine ⟨⟨?_, ?_, ?_, ?_, ?_, ?_⟩, ?_, ?_⟩
  · rw [u2_row (by decide), u2_row (by decide), u2_row (by decide), u2_row (by decide), u2_row (by decide), u2_row (by decide), u2_row (by decide), u2_self]
  · rw [u2_row (by decide), u2_row (by decide), u2_row (by decide), u2_row (by decide), u2_row (by decide), u2_row (by decide), u2_self]
  · rw [u2_row (by decide), u2_row (by decide), u2_row (by decide), u2_row (by decide), u2_row (by decide), u2_self]
  · rw [u2_row (by decide), u2_row (by decide), u2_row (by decide), u2_row (by decide), u2_self]
  · rw [u2_row (by decide), u2_row (by decide), u2_row (by decide), u2_self]
  · rw [u2_row (by decide), u2_row (by decide), u2_self]
  · rw [u2_row (by decide), u2_self]
  · rw [u2_self]
theorem tAdd_TS {S : MM} {n p : Nat} {t c : Int32} (h : TS S n) (hp : p < n) (hn : n < 24) : TS (tAdd S n p t c) (n + 1) := by
  obtain ⟨⟨_, t5, _⟩, t3, _⟩ := tAdd_n (S := S) (n := n) (p := p) (t := t) (c := c)
  obtain ⟨h1, h2, h3, h4, h5⟩ := h
  refine ⟨?_, by omega, by omega, ?_, fun e e0 he => ?_⟩
  · rw [t3, nI_1]
  · rw [tAdd_l (by decide) (by omega)]
    exact h4
  · by_cases z : e = n
    · subst z
      exact ⟨p, hp, t5⟩
    · obtain ⟨q, q1, q2⟩ := h5 e e0 (by omega)
      refine ⟨q, q1, ?_⟩
      rw [tAdd_l (by decide) z]
      exact q2
theorem tAdd_par {S : MM} {n p a : Nat} {t c : Int32} (ha : a ≠ n) : par (tAdd S n p t c) a = par S a := by
  unfold par
  rw [tAdd_l (by decide) ha]
theorem tAdd_pn {S : MM} {n p : Nat} {t c : Int32} (hp : p < 24) : par (tAdd S n p t c) n = some p := by
  unfold par
  rw [tAdd_n.1.2.1, if_neg (nI_ne hp), tn_nI (by omega)]
theorem TNR_ad {S : MM} {n R p b : Nat} {t c : Int32} (hp : p < n) (hn : n < 24) (hb : b < 2 ^ 31) (H : TNR S n R) (nu : NM S n b) : TNR (tAdd S n p t c) (n + 1) R ∧ NM (tAdd S n p t c) (n + 1) (b + 1) ∧ ∀ f, f < n → S 4 f ≠ S 2 0 := by
  obtain ⟨⟨a1, a2, a3, a4⟩, b', c', d, e⟩ := H
  obtain ⟨k, k1, k2, k3⟩ := nu
  obtain ⟨⟨t4, t5, t6, t7, t8, t9⟩, t3, t2⟩ := tAdd_n (S := S) (n := n) (p := p) (t := t) (c := c)
  have gr : RU S (tAdd S n p t c) := fun a h1 h2 _ => tAdd_o (by omega)
  have fr : ∀ f, f < n → S 4 f ≠ S 2 0 := fun f hf z => by
    obtain ⟨j, j1, j2⟩ := k3 f hf
    rw [j2, k2] at z
    have := (nI_eq (by omega) (by omega)).mp z
    omega
  refine ⟨⟨⟨tAdd_TS a1 hp hn, RTo_r gr a2, TDo_r gr a3, fun q hq => ?_⟩, fun f g hf hg z => ?_, fun q hq => ?_, ?_, ?_⟩, ⟨k + 1, by omega, ?_, fun f hf => ?_⟩, fr⟩
  · by_cases y : q = n
    · subst y
      exact ⟨0, by decide, t8⟩
    · rw [tAdd_l (by decide) y]
      exact a4 q (by omega)
  · by_cases y : f = n
    · by_cases y2 : g = n
      · rw [y, y2]
      · rw [y, t4, tAdd_l (by decide) y2] at z
        exact absurd z.symm (fr g (by omega))
    · by_cases y2 : g = n
      · rw [y2, t4, tAdd_l (by decide) y] at z
        exact absurd z (fr f (by omega))
      · rw [tAdd_l (by decide) y, tAdd_l (by decide) y2] at z
        exact b' f g (by omega) (by omega) z
  · by_cases y : q = n
    · subst y
      exact Or.inl t9
    · rw [tAdd_l (by decide) y]
      exact c' q (by omega)
  · rw [tAdd_o (by decide)]
    exact d
  · rw [tAdd_o (by decide)]
    exact e
  · rw [t2, k2, nI_1]
  · by_cases y : f = n
    · subst y
      exact ⟨k, by omega, t4.trans k2⟩
    · obtain ⟨j, j1, j2⟩ := k3 f (by omega)
      refine ⟨j, by omega, ?_⟩
      rw [tAdd_l (by decide) y]
      exact j2
/-- the links with one more child of p -/
def nxA (S : MM) (n p a : Nat) : Option Nat := if (chl S n p).getLast? = some a then some n else nxS S n a
def hdA (S : MM) (n p a : Nat) : Option Nat := if a = p ∧ (chl S n p).getLast? = none then some n else (chl S n a).head?
def glA (S : MM) (n p a : Nat) : Option Nat := if a = p then some n else (chl S n a).getLast?
theorem tAdd_lk {S : MM} {n p : Nat} {t c : Int32} (h : TS S n) (hp : p < n) (hn : n < 24) : (ahS (tAdd S n p t c) n n = (chl S n p).getLast? ∧ nxS (tAdd S n p t c) (n + 1) n = none ∧ (chl (tAdd S n p t c) (n + 1) n).head? = none ∧ (chl (tAdd S n p t c) (n + 1) n).getLast? = none) ∧
    ∀ a, a < n → ahS (tAdd S n p t c) a a = ahS S a a ∧ nxS (tAdd S n p t c) (n + 1) a = nxA S n p a ∧ (chl (tAdd S n p t c) (n + 1) a).head? = hdA S n p a ∧ (chl (tAdd S n p t c) (n + 1) a).getLast? = glA S n p a := by
  have hT := tAdd_TS (p := p) (t := t) (c := c) h hp hn
  obtain ⟨T, eT⟩ : ∃ T, T = tAdd S n p t c := ⟨_, rfl⟩
  have T5 : ∀ a, a < n → T 5 a = S 5 a := fun a ha => by rw [eT, tAdd_l (by decide) (by omega)]
  have s1 : ∀ q a, a < n → (sib S q a ↔ sib T q a) := fun q a ha => by
    unfold sib
    rw [eT, tAdd_par (by omega)]
  have pn : par T n = some p := by rw [eT, tAdd_pn (by omega)]
  have s2 : ∀ q, sib T q n → q = p := fun q z => by
    unfold sib at z
    rw [pn] at z
    cases z
    rfl
  rw [← eT] at hT ⊢
  have noc : ∀ a, a < n + 1 → ¬ sib T n a := fun a ha z => by
    have := ((par_S hT ha).2 n z).1
    omega
  have G := gl_G (S := S) n p
  refine ⟨⟨?_, ?_, ?_, ?_⟩, fun a ha => ⟨?_, ?_, ?_, ?_⟩⟩
  · exact GsO_u (ah_G hT (Nat.lt_succ_self n) pn) (GsO_c (fun a ha => s1 p a ha) G)
  · exact LsO_u (nx_L (Nat.lt_succ_self n) pn) (show LsO (sib T p) (n + 1) (n + 1) none from fun a h1 h2 => absurd h2 (by omega))
  · exact LsO_u (hd_L (n + 1) n) (show LsO (sib T n) 0 (n + 1) none from fun a _ h2 => noc a h2)
  · exact GsO_u (gl_G (n + 1) n) (show GsO (sib T n) (n + 1) none from fun a h2 => noc a h2)
  · exact GsO_u (ah_g (S := T) (e := a) a) (GsO_c (fun b hb => by rw [T5 b (by omega), T5 a ha]) (ah_g (S := S) (e := a) a))
  · unfold nxA
    cases hq : par S a with
    | none =>
      have hq' : par T a = none := by rw [eT, tAdd_par (by omega)]; exact hq
      rw [nx_0 hq', nx_0 hq]
      by_cases z : (chl S n p).getLast? = some a
      · rw [z] at G
        have := G.2.1
        unfold sib at this
        rw [hq] at this
        cases this
      · rw [if_neg z]
    | some q =>
      have hq' : par T a = some q := by rw [eT, tAdd_par (by omega)]; exact hq
      have L := nx_L ha hq
      refine LsO_u (nx_L (by omega) hq') ?_
      by_cases z : (chl S n p).getLast? = some a
      · rw [if_pos z]
        rw [z] at G
        obtain ⟨g1, g2, g3⟩ := G
        unfold sib at g2
        rw [hq] at g2
        cases g2
        exact ⟨by omega, Nat.lt_succ_self n, pn, fun d d1 d2 d3 => g3 d (by omega) d2 ((s1 _ d d2).mpr d3)⟩
      · rw [if_neg z]
        by_cases y : q = p
        · subst y
          cases ho : nxS S n a with
          | none =>
            rw [ho] at L
            exact absurd (GsO_u G (show GsO (sib S q) n (some a) from ⟨ha, hq, fun d d1 d2 => L d (by omega) d2⟩)) z
          | some b =>
            rw [ho] at L
            obtain ⟨l1, l2, l3, l4⟩ := L
            exact ⟨l1, by omega, (s1 _ b l2).mp l3, fun d d1 d2 d3 => l4 d d1 d2 ((s1 _ d (by omega)).mpr d3)⟩
        · exact LsO_x (fun b hb => s1 q b hb) (fun w => y (s2 q w)) L
  · unfold hdA
    refine LsO_u (hd_L (n + 1) a) ?_
    have L := hd_L (S := S) n a
    by_cases y : a = p
    · subst y
      cases hg : (chl S n a).getLast? with
      | none =>
        rw [hg] at G
        rw [if_pos ⟨rfl, rfl⟩]
        exact ⟨Nat.zero_le _, Nat.lt_succ_self n, pn, fun d _ d2 d3 => G d d2 ((s1 _ d d2).mpr d3)⟩
      | some b =>
        rw [hg] at G
        rw [if_neg (fun w => by cases w.2)]
        cases ho : (chl S n a).head? with
        | none =>
          rw [ho] at L
          exact absurd G.2.1 (L b (Nat.zero_le _) G.1)
        | some e =>
          rw [ho] at L
          obtain ⟨l1, l2, l3, l4⟩ := L
          exact ⟨l1, by omega, (s1 _ e l2).mp l3, fun d d1 d2 d3 => l4 d d1 d2 ((s1 _ d (by omega)).mpr d3)⟩
    · rw [if_neg (fun w => y w.1)]
      exact LsO_x (fun b hb => s1 a b hb) (fun w => y (s2 a w)) L
  · unfold glA
    refine GsO_u (gl_G (n + 1) a) ?_
    by_cases y : a = p
    · subst y
      rw [if_pos rfl]
      exact ⟨Nat.lt_succ_self n, pn, fun d d1 d2 => absurd d2 (by omega)⟩
    · rw [if_neg y]
      exact GsO_x (fun b hb => s1 a b hb) (fun w => y (s2 a w)) (gl_G n a)
