/-! ===== what is found, all of it ===== -/
def LE (S Y : MM) (n R : Nat) : Prop := (∀ e, e < n → LEV S Y n R e) ∧ LEB S Y n ∧ (Y 0 29 ≠ 0 → Y 0 32 = owY Y 0 (S 1 0) ∧ Y 0 30 = 0 ∧ Y 0 31 = 0) ∧ (∀ p, p < n → LEW S Y n p) ∧ ∀ p, p < n → LEH S Y n p
/-- the values are in their ranges -/
def VR (Y : MM) (n : Nat) : Prop := ∀ e, e < n → (∀ v, v < 4 → Y e (10 + v) = -1 → Y e (24 + v) = -1) ∧ (∃ t, 0 < t ∧ t < 7 ∧ Y e 7 = nI t) ∧ 0 ≤ Y e 3 ∧ (Y e 5 = 0 ∨ Y e 5 = 1 ∨ Y e 5 = 2 ∨ Y e 5 = 3) ∧ (Y e 29 ≠ 0 → 0 ≤ Y e 32)
/-- what is told of a house -/
def TOLD (S : MM) (n R : Nat) : Prop := TS S n ∧ RTo S R ∧ TDo S R ∧ WDo S n
/-! ===== the model's functions: finds ===== -/
def FM (S S' : MM) : Prop := ∀ k, k ≤ 22 ∨ k = 27 ∨ (29 ≤ k ∧ k ≤ 33) → S' k = S k
theorem FM_r (S : MM) : FM S S := fun _ _ => rfl
theorem FM_t {S S1 S2 : MM} (a : FM S S1) (b : FM S1 S2) : FM S S2 := fun k h => (b k h).trans (a k h)
theorem FM_TG {S S' : MM} (a : FM S S') : TG S S' := fun k _ h => a k (Or.inl h)
def dpt (S : MM) : Nat → Nat → Nat
  | 0, _ => 0
  | f + 1, e => match par S e with
    | none => 0
    | some q => dpt S f q + 1
theorem dpt_st {S : MM} {n : Nat} (h : TS S n) : ∀ (e : Nat), e < n → ∀ f g, e < f → e < g → dpt S f e = dpt S g e := by
  intro e
  induction e using Nat.strongRecOn with
  | ind e ih =>
    intro he f g hf hg
    obtain ⟨f, rfl⟩ : ∃ z, f = z + 1 := ⟨f - 1, by omega⟩
    obtain ⟨g, rfl⟩ : ∃ z, g = z + 1 := ⟨g - 1, by omega⟩
    unfold dpt
    cases hq : par S e with
    | none => rfl
    | some q =>
      obtain ⟨q1, q2⟩ := (par_S h he).2 q hq
      show dpt S f q + 1 = dpt S g q + 1
      rw [ih q q1 q2 f g (by omega) (by omega)]
def dp (S : MM) (e : Nat) : Nat := dpt S 25 e
theorem dp_p {S : MM} {n e q : Nat} (h : TS S n) (he : e < n) (hq : par S e = some q) : dp S e = dp S q + 1 := by
  obtain ⟨q1, q2⟩ := (par_S h he).2 q hq
  have h24 := h.2.2.1
  show dpt S 25 e = dpt S 25 q + 1
  rw [dpt, hq]
  show dpt S 24 q + 1 = _
  rw [dpt_st h q q2 24 25 (by omega) (by omega)]
theorem dp_0 {S : MM} {e : Nat} (hq : par S e = none) : dp S e = 0 := by
  show dpt S 25 e = 0
  rw [dpt, hq]
theorem dp_le {S : MM} {n : Nat} (h : TS S n) : ∀ e, e < n → dp S e ≤ e := by
  intro e
  induction e using Nat.strongRecOn with
  | ind e ih =>
    intro he
    cases hq : par S e with
    | none => rw [dp_0 hq]; exact Nat.zero_le _
    | some q =>
      obtain ⟨q1, q2⟩ := (par_S h he).2 q hq
      have := ih q q1 q2
      rw [dp_p h he hq]
      omega
theorem dp_c {S S' : MM} (g : TG S S') : dp S' = dp S := funext fun e => by
  have : ∀ f e, dpt S' f e = dpt S f e := by
    intro f
    induction f with
    | zero => exact fun _ => rfl
    | succ f ih =>
      intro e
      unfold dpt
      rw [par_c g]
      cases par S e with
      | none => rfl
      | some q =>
        show dpt S' f q + 1 = dpt S f q + 1
        rw [ih]
  exact this 25 e
theorem finds4 {S : MM} {n : Nat} (h : TS S n) : ∃ (M : Nat) (S' : MM), (M ≤ 23 ∧ (∀ e, e < n → dp S e ≤ M) ∧ (∀ e, e < n → S' 27 e = nI (dp S e)) ∧ ∀ k, k ≠ 27 → S' k = S k) ∧ ∀ K, m_finds_4 K 1000 0 0 S = K (nI M) S' := by
  have h24 := h.2.2.1
  obtain ⟨s, ⟨M, i1, i2, i3, i4, i5⟩, e⟩ := lp_0 (σ := Int32 × MM) (α := Option MM) (L := fun K fu k s => m_finds_4 (fun a b => K (a, b)) fu s.1 (nI k) s.2) (n := n)
    (Inv := fun k s => ∃ M, s.1 = nI M ∧ M ≤ 23 ∧ (∀ e, e < k → dp S e ≤ M) ∧ (∀ e, e < k → s.2 27 e = nI (dp S e)) ∧ ∀ k, k ≠ 27 → s.2 k = S k)
    (fun K fu s hi => by
      obtain ⟨M, i1, i2, i3, i4, i5⟩ := hi
      show m_finds_4 (fun a b => K (a, b)) (fu + 1) s.1 (nI n) s.2 = K s
      rw [m_finds_4, i5 3 (by decide), h.1, if_pos (Int32.le_refl _)])
    (fun fu k s hk hi => by
      obtain ⟨x1, S1⟩ := s
      obtain ⟨M, i1, i2, i3, i4, i5⟩ : ∃ M, x1 = nI M ∧ M ≤ 23 ∧ (∀ e, e < k → dp S e ≤ M) ∧ (∀ e, e < k → S1 27 e = nI (dp S e)) ∧ ∀ k, k ≠ 27 → S1 k = S k := hi
      subst i1
      have hd := dp_le h k hk
      have k24 : k < 24 := by omega
      obtain ⟨p1, p2⟩ := par_S h hk
      have hdk : (if S 5 k = -1 then (0 : Int32) else S1 27 (tn (S 5 k)) + 1) = nI (dp S k) ∧ (¬ S 5 k = -1 → ix (S 5 k) 24) := by
        rw [p1]
        cases hq : par S k with
        | none =>
          rw [if_pos (show eo none = -1 from rfl), dp_0 hq]
          exact ⟨rfl, fun z => absurd rfl z⟩
        | some q =>
          obtain ⟨q1, q2⟩ := p2 q hq
          rw [if_neg (show ¬ eo (some q) = -1 from nI_ne1 (by omega)), show eo (some q) = nI q from rfl, tn_nI (by omega), i4 q q1, dp_p h hk hq, nI_1]
          exact ⟨rfl, fun _ => ix_nI (by omega) (by omega)⟩
      refine ⟨(nI (max M (dp S k)), u2 S1 27 k (nI (dp S k))), ⟨max M (dp S k), rfl, by omega, fun e he => ?_, fun e he => ?_, fun i hi => ?_⟩, fun K => ?_⟩
      · by_cases q : e = k
        · rw [q]; omega
        · have := i3 e (by omega)
          omega
      · show u2 S1 27 k (nI (dp S k)) 27 e = _
        by_cases q : e = k
        · rw [q, u2_self]
        · rw [u2_ne (fun z => q z.2)]
          exact i4 e (by omega)
      · show u2 S1 27 k (nI (dp S k)) i = S i
        funext j
        rw [u2_row hi, i5 i hi]
      · show m_finds_4 (fun a b => K (a, b)) (fu + 1) (nI M) (nI k) S1 = m_finds_4 (fun a b => K (a, b)) fu (nI (max M (dp S k))) (nI (k + 1)) (u2 S1 27 k (nI (dp S k)))
        rw [m_finds_4, i5 3 (by decide), h.1, if_neg (nI_ge hk (by omega)), if_pos (ix_nI k24 (by omega)), tn_nI (by omega), i5 5 (by decide), if_pos hdk.2, hdk.1, bnd_s, bnd_s, u2_self]
        have hmx : (if nI (dp S k) ≤ nI M then nI M else nI (dp S k)) = nI (max M (dp S k)) := by
          by_cases q : dp S k ≤ M
          · rw [if_pos (nI_le q (by omega)), Nat.max_eq_left q]
          · rw [if_neg (nI_ge (by omega) (by omega)), Nat.max_eq_right (by omega)]
        rw [hmx, bnd_s, nI_1])
    (fu := 1000) (s := (0, S)) (by omega) ⟨0, rfl, by omega, fun e he => absurd he (Nat.not_lt_zero e), fun e he => absurd he (Nat.not_lt_zero e), fun _ _ => rfl⟩
  obtain ⟨x1, S'⟩ := s
  have i1' : x1 = nI M := i1
  subst i1'
  refine ⟨M, S', ⟨i2, i3, i4, i5⟩, fun K => ?_⟩
  have := e (fun s => K s.1 s.2)
  rw [nI_0] at this
  exact this
def GV (S Y : MM) (e : Nat) : Prop := ∀ p, p < 14 → S 23 (14 * e + p) = Y e p ∧ S 24 (14 * e + p) = Y e (14 + p)
def GW (S Y : MM) (e : Nat) : Prop := S 28 e = Y e 29 ∧ (Y e 29 ≠ 0 → S 25 (4 * e + 2) = Y e 32)
/-- places above: smaller, and less deep -/
theorem nct_a {S : MM} {n : Nat} (h : TS S n) : ∀ (f : Nat) (o : Option Nat) (q : Nat), nct S f o = some q → ∃ a, o = some a ∧ (a < n → q < n ∧ dp S q ≤ dp S a)
  | 0, o, q, z => by cases z
  | f + 1, none, q, z => by cases z
  | f + 1, some a, q, z => by
    have z' : (if S 9 a = 0 then nct S f (par S a) else some a) = some q := z
    refine ⟨a, rfl, fun ha => ?_⟩
    by_cases y : S 9 a = 0
    · rw [if_pos y] at z'
      obtain ⟨b, b1, b2⟩ := nct_a h f (par S a) q z'
      obtain ⟨c1, c2⟩ := (par_S h ha).2 b b1
      have := b2 c2
      rw [dp_p h ha b1]
      exact ⟨this.1, by omega⟩
    · rw [if_neg y] at z'
      cases z'
      exact ⟨ha, Nat.le_refl _⟩
theorem GV_o {S S' Y : MM} {e c : Nat} (h : ∀ j, (∀ p, p < 14 → j ≠ 14 * e + p) → S' 23 j = S 23 j ∧ S' 24 j = S 24 j) (hc : c ≠ e) (g : GV S Y c) : GV S' Y c := fun p hp => by
  have := h (14 * c + p) (fun q hq => by omega)
  rw [this.1, this.2]
  exact g p hp
theorem finds81 {S0 S Y : MM} {n R L : Nat} (T : TOLD S0 n R) (hY : LE S0 Y n R) (hV : VR Y n) (hS : FM S0 S) (h27 : ∀ e, e < n → S 27 e = nI (dp S0 e)) (hL : L ≤ 23) (hp : ∀ e, e < n → dp S0 e < L → GV S Y e ∧ GW S Y e) :
    ∃ S' : MM, (FM S S' ∧ (∀ e, e < n → dp S0 e < L → GV S' Y e ∧ GW S' Y e) ∧ (∀ e, e < n → dp S0 e = L → GV S' Y e) ∧ S' 28 = S 28) ∧ ∀ K, m_finds_81 K (nI L) 1000 0 S = K S' := by
  obtain ⟨h, hT, hD, hW⟩ := T
  have h24 := h.2.2.1
  obtain ⟨s, ⟨i1, i2, i3, i4, -⟩, e⟩ := lp_0 (σ := MM) (α := Option MM) (L := fun K fu k s => m_finds_81 K (nI L) fu (nI k) s) (n := n)
    (Inv := fun k s => FM S s ∧ (∀ e, e < n → dp S0 e < L → GV s Y e ∧ GW s Y e) ∧ (∀ e, e < k → dp S0 e = L → GV s Y e) ∧ s 28 = S 28 ∧ s 25 = S 25)
    (fun K fu s hi => by
      show m_finds_81 K (nI L) (fu + 1) (nI n) s = K s
      rw [m_finds_81, (FM_t hS hi.1) 3 (by decide), h.1, if_pos (Int32.le_refl _)])
    (fun fu k s hk hi => by
      obtain ⟨i1, i2, i3, i4, i5⟩ := hi
      have f0 := FM_t hS i1
      have k24 : k < 24 := by omega
      have hd := dp_le h k hk
      have h27k : s 27 k = nI (dp S0 k) := by rw [i1 27 (by decide)]; exact h27 k hk
      by_cases q : dp S0 k = L
      · have g := FM_TG f0
        have hLs : LEV s Y n R k := by
          obtain ⟨xs, x1, x2, x3, x4, x5⟩ := hY.1 k hk
          refine ⟨xs, fun r => ?_, by rw [stB_c g]; exact x2, x3, fun p hp => by rw [tkY_c g, cl_c g]; exact x4 p hp, fun v hv => ?_⟩
          · rw [x1 r]
            unfold thY
            rw [fitS_c g, par_c g, nct_c g, g 19 (by decide) (by decide)]
          · rw [tkY_c g, cl_c g, show (fun p => cl s p xs (-1)) = fun p => cl S0 p xs (-1) from funext fun p => cl_c g p xs _, ndS_c g]
            exact x5 v hv
        obtain ⟨s', t1, t2, t3, t4⟩ := findsValues_s (S := s) (Y := Y) (TS_c g h) (RTo_c g hT) (TDo_c g hD) hk hLs (fun p hp => by
          rw [par_c g] at hp
          obtain ⟨p1, p2⟩ := (par_S h hk).2 p hp
          have := dp_p h hk hp
          exact (i2 p p2 (by omega)).1) (fun p hp => by
          rw [par_c g, nct_c g] at hp
          obtain ⟨a, a1, a2⟩ := nct_a h 26 _ p hp
          obtain ⟨b1, b2⟩ := (par_S h hk).2 a a1
          have := dp_p h hk a1
          obtain ⟨c1, c2⟩ := a2 b2
          obtain ⟨w1, w2⟩ := (i2 p c1 (by omega)).2
          unfold wdS wdY
          rw [w1]
          by_cases y : Y p 29 = 0
          · rw [if_pos y, if_pos y]
          · rw [if_neg y, if_neg y, w2 y]) (hV k hk).1
        refine ⟨s', ⟨fun j hj => (t4 j (by omega) (by omega) (by omega) (by omega)).trans (i1 j hj), fun e he hde => ?_, fun e he hde => ?_, (t4 28 (by decide) (by decide) (by decide) (by decide)).trans i4, (t4 25 (by decide) (by decide) (by decide) (by decide)).trans i5⟩, fun K => ?_⟩
        · obtain ⟨a1, a2⟩ := i2 e he hde
          refine ⟨GV_o t3 (fun z => by subst z; omega) a1, ?_⟩
          unfold GW
          rw [t4 28 (by decide) (by decide) (by decide) (by decide), t4 25 (by decide) (by decide) (by decide) (by decide)]
          exact a2
        · by_cases z : e = k
          · rw [z]
            exact fun p hp => t2 p hp
          · exact GV_o t3 z (i3 e (by omega) hde)
        · show m_finds_81 K (nI L) (fu + 1) (nI k) s = m_finds_81 K (nI L) fu (nI (k + 1)) s'
          rw [m_finds_81, f0 3 (by decide), h.1, if_neg (nI_ge hk (by omega)), if_pos (ix_nI k24 (by omega)), tn_nI (by omega), h27k, if_pos (by rw [q]), t1, bd_s, nI_1]
      · refine ⟨s, ⟨i1, i2, fun e he hde => ?_, i4, i5⟩, fun K => ?_⟩
        · have z : e ≠ k := fun z => q (by rw [← z]; exact hde)
          exact i3 e (by omega) hde
        · show m_finds_81 K (nI L) (fu + 1) (nI k) s = m_finds_81 K (nI L) fu (nI (k + 1)) s
          rw [m_finds_81, f0 3 (by decide), h.1, if_neg (nI_ge hk (by omega)), if_pos (ix_nI k24 (by omega)), tn_nI (by omega), h27k, if_neg (fun z => q ((nI_eq (by omega) (by omega)).mp z)), nI_1])
    (fu := 1000) (s := S) (by omega) ⟨FM_r S, hp, fun e he => absurd he (Nat.not_lt_zero e), rfl, rfl⟩
  rw [nI_0] at e
  exact ⟨s, ⟨i1, i2, i3, i4⟩, e⟩
