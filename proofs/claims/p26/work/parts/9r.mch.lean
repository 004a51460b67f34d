/-! ===== the model's functions: keeps, changes ===== -/
theorem keeps_s {S : MM} {n : Nat} (h : TS S n) : ∃ S' : MM, m_keeps S = some S' ∧ S' 29 0 = nI n ∧ (∀ e, e < n → S' 30 e = S 4 e) ∧ (∀ i, i < 14 * n → S' 31 i = S 23 i) ∧ (∀ i, i < 4 * n → S' 32 i = S 25 i) ∧ ∀ k, k ≠ 29 → k ≠ 30 → k ≠ 31 → k ≠ 32 → S' k = S k := by
  have h24 := h.2.2.1
  obtain ⟨S0, eS0⟩ : ∃ S0 : MM, S0 = u2 S 29 0 (nI n) := ⟨_, rfl⟩
  have o0 : ∀ k, k ≠ 29 → S0 k = S k := fun k hk => by
    funext j
    rw [eS0, u2_row hk]
  obtain ⟨S1, ⟨a1, a2⟩, e1⟩ := lp_0 (σ := MM) (α := Option MM) (L := fun K fu k s => m_keeps_10 K fu (nI k) s) (n := n)
    (Inv := fun k s => (∀ e, e < k → s 30 e = S 4 e) ∧ ∀ k, k ≠ 30 → s k = S0 k)
    (fun K fu s hi => by
      show m_keeps_10 K (fu + 1) (nI n) s = K s
      rw [m_keeps_10, hi.2 3 (by decide), o0 3 (by decide), h.1, if_pos (Int32.le_refl _)])
    (fun fu k s hk hi => by
      obtain ⟨i1, i2⟩ := hi
      refine ⟨u2 s 30 k (S 4 k), ⟨fun e he => ?_, fun j hj => ?_⟩, fun K => ?_⟩
      · by_cases q : e = k
        · rw [q, u2_self]
        · rw [u2_ne (fun z => q z.2)]
          exact i1 e (by omega)
      · funext a
        rw [u2_row hj, i2 j hj]
      · show m_keeps_10 K (fu + 1) (nI k) s = m_keeps_10 K fu (nI (k + 1)) (u2 s 30 k (S 4 k))
        rw [m_keeps_10, i2 3 (by decide), o0 3 (by decide), h.1, if_neg (nI_ge hk (by omega)), if_pos (ix_nI (by omega) (by omega)), tn_nI (by omega), i2 4 (by decide), o0 4 (by decide), bnd_s, nI_1])
    (fu := 1000) (s := S0) (by omega) ⟨fun e he => absurd he (Nat.not_lt_zero e), fun _ _ => rfl⟩
  obtain ⟨S2, ⟨b1, b2⟩, e2⟩ := lp_0 (σ := MM) (α := Option MM) (L := fun K fu k s => m_keeps_38 K fu (nI k) s) (n := 14 * n)
    (Inv := fun k s => (∀ e, e < k → s 31 e = S 23 e) ∧ ∀ k, k ≠ 31 → s k = S1 k)
    (fun K fu s hi => by
      show m_keeps_38 K (fu + 1) (nI (14 * n)) s = K s
      rw [m_keeps_38, hi.2 3 (by decide), a2 3 (by decide), o0 3 (by decide), h.1, nx14, if_pos (Int32.le_refl _)])
    (fun fu k s hk hi => by
      obtain ⟨i1, i2⟩ := hi
      refine ⟨u2 s 31 k (S 23 k), ⟨fun e he => ?_, fun j hj => ?_⟩, fun K => ?_⟩
      · by_cases q : e = k
        · rw [q, u2_self]
        · rw [u2_ne (fun z => q z.2)]
          exact i1 e (by omega)
      · funext a
        rw [u2_row hj, i2 j hj]
      · show m_keeps_38 K (fu + 1) (nI k) s = m_keeps_38 K fu (nI (k + 1)) (u2 s 31 k (S 23 k))
        rw [m_keeps_38, i2 3 (by decide), a2 3 (by decide), o0 3 (by decide), h.1, nx14, if_neg (nI_ge hk (by omega)), if_pos (ix_nI (by omega) (by omega)), tn_nI (by omega), i2 23 (by decide), a2 23 (by decide), o0 23 (by decide), bnd_s, nI_1])
    (fu := 1000) (s := S1) (by omega) ⟨fun e he => absurd he (Nat.not_lt_zero e), fun _ _ => rfl⟩
  obtain ⟨S3, ⟨c1, c2⟩, e3⟩ := lp_0 (σ := MM) (α := Option MM) (L := fun K fu k s => (m_keeps_69 fu (nI k) s).bind K) (n := 4 * n)
    (Inv := fun k s => (∀ e, e < k → s 32 e = S 25 e) ∧ ∀ k, k ≠ 32 → s k = S2 k)
    (fun K fu s hi => by
      show (m_keeps_69 (fu + 1) (nI (4 * n)) s).bind K = K s
      rw [m_keeps_69, hi.2 3 (by decide), b2 3 (by decide), a2 3 (by decide), o0 3 (by decide), h.1, nx4, if_pos (Int32.le_refl _)]
      rfl)
    (fun fu k s hk hi => by
      obtain ⟨i1, i2⟩ := hi
      refine ⟨u2 s 32 k (S 25 k), ⟨fun e he => ?_, fun j hj => ?_⟩, fun K => ?_⟩
      · by_cases q : e = k
        · rw [q, u2_self]
        · rw [u2_ne (fun z => q z.2)]
          exact i1 e (by omega)
      · funext a
        rw [u2_row hj, i2 j hj]
      · show (m_keeps_69 (fu + 1) (nI k) s).bind K = (m_keeps_69 fu (nI (k + 1)) (u2 s 32 k (S 25 k))).bind K
        rw [m_keeps_69, i2 3 (by decide), b2 3 (by decide), a2 3 (by decide), o0 3 (by decide), h.1, nx4, if_neg (nI_ge hk (by omega)), if_pos (ix_nI (by omega) (by omega)), tn_nI (by omega), i2 25 (by decide), b2 25 (by decide), a2 25 (by decide), o0 25 (by decide), bnd_s, nI_1])
    (fu := 1000) (s := S2) (by omega) ⟨fun e he => absurd he (Nat.not_lt_zero e), fun _ _ => rfl⟩
  rw [nI_0] at e1 e2
  have e4 := e3 some
  rw [nI_0] at e4
  refine ⟨S3, ?_, ?_, fun e he => ?_, fun i hi => ?_, fun i hi => c1 i hi, fun k x y z w => ?_⟩
  · unfold m_keeps
    rw [h.1, bnd_s, ← eS0, e1, e2]
    exact bind_so e4
  · rw [c2 29 (by decide), b2 29 (by decide), a2 29 (by decide), eS0, u2_self]
  · rw [c2 30 (by decide), b2 30 (by decide)]
    exact a1 e he
  · rw [c2 31 (by decide)]
    exact b1 i hi
  · rw [c2 k w, b2 k z, a2 k y, o0 k x]
/-- how many below k -/
def cn (P : Nat → Bool) : Nat → Nat
  | 0 => 0
  | k + 1 => cn P k + if P k = true then 1 else 0
theorem cn_le (P : Nat → Bool) : ∀ k, cn P k ≤ k
  | 0 => Nat.le_refl _
  | k + 1 => by
    have := cn_le P k
    unfold cn
    by_cases q : P k = true
    · rw [if_pos q]; omega
    · rw [if_neg q]; omega
theorem cn_c {P Q : Nat → Bool} : ∀ k, (∀ e, e < k → P e = Q e) → cn P k = cn Q k
  | 0, _ => rfl
  | k + 1, h => by
    unfold cn
    rw [cn_c k (fun e he => h e (by omega)), h k (by omega)]
/-- an element is as it was: the values and the box -/
def smM (S : MM) (e f : Nat) : Bool := (List.range 14).all (fun k => decide (S 23 (14 * e + k) = S 31 (14 * f + k))) && (List.range 4).all (fun k => decide (S 25 (4 * e + k) = S 32 (4 * f + k)))
theorem smM_iff {S : MM} {e f : Nat} : smM S e f = true ↔ (∀ k, k < 14 → S 23 (14 * e + k) = S 31 (14 * f + k)) ∧ ∀ k, k < 4 → S 25 (4 * e + k) = S 32 (4 * f + k) := by
  unfold smM
  rw [Bool.and_eq_true, List.all_eq_true, List.all_eq_true]
  constructor
  · rintro ⟨a, b⟩
    exact ⟨fun k hk => decide_eq_true_iff.mp (a k (List.mem_range.mpr hk)), fun k hk => decide_eq_true_iff.mp (b k (List.mem_range.mpr hk))⟩
  · rintro ⟨a, b⟩
    exact ⟨fun k hk => decide_eq_true_iff.mpr (a k (List.mem_range.mp hk)), fun k hk => decide_eq_true_iff.mpr (b k (List.mem_range.mp hk))⟩
theorem and01 {a b : Bool} : (if a = true then (1 : Int32) else 0) &&& (if b = true then 1 else 0) = if (a && b) = true then 1 else 0 := by
  cases a <;> cases b <;> decide
theorem all_s {P : Nat → Bool} {k : Nat} : (List.range (k + 1)).all P = ((List.range k).all P && P k) := by
  rw [List.range_succ, List.all_append, List.all_cons, List.all_nil, Bool.and_true]
theorem ch47 {S : MM} {e f : Nat} (he : e < 24) (hf : f < 24) : ∀ K, m_changes_47 K S (nI e) (nI f) 1000 1 0 = K (if (List.range 14).all (fun k => decide (S 23 (14 * e + k) = S 31 (14 * f + k))) = true then 1 else 0) := by
  obtain ⟨s, i1, e1⟩ := lp_0 (σ := Int32) (α := Option MM) (L := fun K fu k s => m_changes_47 K S (nI e) (nI f) fu s (nI k)) (n := 14)
    (Inv := fun k s => s = if (List.range k).all (fun k => decide (S 23 (14 * e + k) = S 31 (14 * f + k))) = true then 1 else 0)
    (fun K fu s hi => by
      show m_changes_47 K S (nI e) (nI f) (fu + 1) s (nI 14) = K s
      rw [m_changes_47, if_pos (by decide)])
    (fun fu k s hk hi => by
      refine ⟨_, rfl, fun K => ?_⟩
      show m_changes_47 K S (nI e) (nI f) (fu + 1) s (nI k) = m_changes_47 K S (nI e) (nI f) fu _ (nI (k + 1))
      have h1 : (if S 23 (14 * e + k) = S 31 (14 * f + k) then (1 : Int32) else 0) = if decide (S 23 (14 * e + k) = S 31 (14 * f + k)) = true then 1 else 0 := by
        by_cases q : S 23 (14 * e + k) = S 31 (14 * f + k)
        · rw [if_pos q, if_pos (decide_eq_true_iff.mpr q)]
        · rw [if_neg q, if_neg (fun z => q (decide_eq_true_iff.mp z))]
      rw [m_changes_47, if_neg (n14 hk), nx14, nx14, nI_add, nI_add, if_pos (ix_nI (by omega) (by omega)), if_pos (ix_nI (by omega) (by omega)), tn_nI (by omega), tn_nI (by omega), h1, bnd_s, bnd_s, hi, and01, all_s, nI_1])
    (fu := 1000) (s := 1) (by omega) rfl
  rw [nI_0] at e1
  intro K
  rw [e1 K, i1]
theorem ch100 {S : MM} {e f : Nat} {b : Bool} (he : e < 24) (hf : f < 24) : ∀ K, m_changes_100 K S (nI e) (nI f) 1000 (if b = true then 1 else 0) 0 = K (if (b && (List.range 4).all (fun k => decide (S 25 (4 * e + k) = S 32 (4 * f + k)))) = true then 1 else 0) := by
  obtain ⟨s, i1, e1⟩ := lp_0 (σ := Int32) (α := Option MM) (L := fun K fu k s => m_changes_100 K S (nI e) (nI f) fu s (nI k)) (n := 4)
    (Inv := fun k s => s = if (b && (List.range k).all (fun k => decide (S 25 (4 * e + k) = S 32 (4 * f + k)))) = true then 1 else 0)
    (fun K fu s hi => by
      show m_changes_100 K S (nI e) (nI f) (fu + 1) s (nI 4) = K s
      rw [m_changes_100, if_pos (by decide)])
    (fun fu k s hk hi => by
      refine ⟨_, rfl, fun K => ?_⟩
      show m_changes_100 K S (nI e) (nI f) (fu + 1) s (nI k) = m_changes_100 K S (nI e) (nI f) fu _ (nI (k + 1))
      have h1 : (if S 25 (4 * e + k) = S 32 (4 * f + k) then (1 : Int32) else 0) = if decide (S 25 (4 * e + k) = S 32 (4 * f + k)) = true then 1 else 0 := by
        by_cases q : S 25 (4 * e + k) = S 32 (4 * f + k)
        · rw [if_pos q, if_pos (decide_eq_true_iff.mpr q)]
        · rw [if_neg q, if_neg (fun z => q (decide_eq_true_iff.mp z))]
      rw [m_changes_100, if_neg (n4 hk), nx4, nx4, nI_add, nI_add, if_pos (ix_nI (by omega) (by omega)), if_pos (ix_nI (by omega) (by omega)), tn_nI (by omega), tn_nI (by omega), h1, bnd_s, bnd_s, hi, and01, all_s, Bool.and_assoc, nI_1])
    (fu := 1000) (s := if b = true then 1 else 0) (by omega) (by rw [List.range_zero, List.all_nil, Bool.and_true])
  rw [nI_0] at e1
  intro K
  rw [e1 K, i1]
/-- which place ahead is that of the same number -/
def mch (S : MM) (n na : Nat) (mt : Nat → Option Nat) : Prop := (∀ e f, e < n → mt e = some f → f < na) ∧ ∀ e f, e < n → f < na → (S 4 e = S 30 f ↔ mt e = some f)
def isD (S : MM) (mt : Nat → Option Nat) (e : Nat) : Bool := match mt e with
  | none => false
  | some f => !(smM S e f)
def isE (S : MM) (mt : Nat → Option Nat) (e : Nat) : Bool := match mt e with
  | none => false
  | some f => smM S e f
theorem ch18 {S0 S : MM} {n na e a b : Nat} {mt : Nat → Option Nat} (hm : mch S0 n na mt) (hn : n ≤ 24) (hna : na ≤ 24) (he : e < n) (h29 : S0 29 0 = nI na) (hS : ∀ k j, ¬ (k = 33 ∧ j = 0) → S k j = S0 k j) (h33 : S 33 0 = nI b) :
    ∃ S' : MM, ((∀ k j, ¬ (k = 33 ∧ j = 0) → S' k j = S0 k j) ∧ S' 33 0 = nI (b + if isD S0 mt e = true then 1 else 0)) ∧ ∀ K, m_changes_18 K (nI e) 1000 (nI a) 0 S = K (nI (a + if isE S0 mt e = true then 1 else 0)) S' := by
  have smc : ∀ S' : MM, (∀ k j, ¬ (k = 33 ∧ j = 0) → S' k j = S0 k j) → ∀ f, smM S' e f = smM S0 e f := fun S' h f => by
    have r : ∀ k, k ≠ 33 → S' k = S0 k := fun k hk => funext fun j => h k j (fun z => hk z.1)
    unfold smM
    rw [r 23 (by decide), r 31 (by decide), r 25 (by decide), r 32 (by decide)]
  obtain ⟨s, ⟨i1, i2, i3⟩, e1⟩ := lp_0 (σ := Int32 × MM) (α := Option MM) (L := fun K fu k s => m_changes_18 (fun a b => K (a, b)) (nI e) fu s.1 (nI k) s.2) (n := na)
    (Inv := fun k s => (∀ i j, ¬ (i = 33 ∧ j = 0) → s.2 i j = S0 i j) ∧ s.1 = nI (a + if isE S0 mt e = true ∧ (∀ f, mt e = some f → f < k) then 1 else 0) ∧ s.2 33 0 = nI (b + if isD S0 mt e = true ∧ (∀ f, mt e = some f → f < k) then 1 else 0))
    (fun K fu s hi => by
      show m_changes_18 (fun a b => K (a, b)) (nI e) (fu + 1) s.1 (nI na) s.2 = K s
      rw [m_changes_18, hi.1 29 0 (fun z => absurd z.1 (by decide)), h29, if_pos (Int32.le_refl _)])
    (fun fu k s hk hi => by
      obtain ⟨x1, S1⟩ := s
      obtain ⟨i1, i2, i3⟩ : (∀ i j, ¬ (i = 33 ∧ j = 0) → S1 i j = S0 i j) ∧ x1 = nI (a + if isE S0 mt e = true ∧ (∀ f, mt e = some f → f < k) then 1 else 0) ∧ S1 33 0 = nI (b + if isD S0 mt e = true ∧ (∀ f, mt e = some f → f < k) then 1 else 0) := hi
      have e24 : e < 24 := by omega
      have k24 : k < 24 := by omega
      have h4 : S1 4 e = S0 4 e := i1 4 e (fun z => absurd z.1 (by decide))
      have h30 : S1 30 k = S0 30 k := i1 30 k (fun z => absurd z.1 (by decide))
      have e0 : ∀ K : Int32 × MM → Option MM, m_changes_18 (fun a b => K (a, b)) (nI e) (fu + 1) x1 (nI k) S1 = if mt e = some k then m_changes_18 (fun a b => K (a, b)) (nI e) fu (x1 + (if smM S0 e k = true then 1 else 0)) (nI (k + 1)) (u2 S1 33 0 (S1 33 0 + (if smM S0 e k = true then 0 else 1))) else m_changes_18 (fun a b => K (a, b)) (nI e) fu x1 (nI (k + 1)) S1 := fun K => by
        rw [m_changes_18, i1 29 0 (fun z => absurd z.1 (by decide)), h29, if_neg (nI_ge hk (by omega)), if_pos (ix_nI e24 (by omega)), if_pos (ix_nI k24 (by omega)), tn_nI (show e < 2 ^ 31 by omega), tn_nI (show k < 2 ^ 31 by omega), h4, h30]
        by_cases q : mt e = some k
        · rw [if_pos q, if_pos ((hm.2 e k he hk).mpr q), ch47 e24 k24, ch100 e24 k24]
          have ec : ((List.range 14).all (fun k' => decide (S1 23 (14 * e + k') = S1 31 (14 * k + k'))) && (List.range 4).all (fun k' => decide (S1 25 (4 * e + k') = S1 32 (4 * k + k')))) = smM S0 e k := smc S1 i1 k
          rw [ec]
          by_cases t : smM S0 e k = true
          · rw [if_pos t, if_neg (show ¬ (1 : Int32) = 0 by decide), bnd_s, bnd_s, if_neg (show ¬ (1 : Int32) = 0 by decide), bnd_s, bnd_s, if_pos t, nI_1]
          · rw [if_neg t, if_pos (show (0 : Int32) = 0 from rfl), bnd_s, bnd_s, if_pos (show (0 : Int32) = 0 from rfl), bnd_s, bnd_s, if_neg t, nI_1]
        · rw [if_neg q, if_neg (fun z => q ((hm.2 e k he hk).mp z)), nI_1]
      by_cases q : mt e = some k
      · have hlt : ¬ ∀ f, mt e = some f → f < k := fun z => absurd (z k q) (Nat.lt_irrefl k)
        have hlt2 : ∀ f, mt e = some f → f < k + 1 := fun f hf => by
          rw [q] at hf
          cases hf
          omega
        have dE : isE S0 mt e = smM S0 e k := by unfold isE; rw [q]
        have dD : isD S0 mt e = !(smM S0 e k) := by unfold isD; rw [q]
        rw [if_neg (fun z => hlt z.2), Nat.add_zero] at i2 i3
        refine ⟨(x1 + (if smM S0 e k = true then 1 else 0), u2 S1 33 0 (S1 33 0 + (if smM S0 e k = true then 0 else 1))), ⟨fun i j hij => ?_, ?_, ?_⟩, fun K => (e0 K).trans (if_pos q)⟩
        · show u2 S1 33 0 _ i j = _
          rw [u2_ne hij]
          exact i1 i j hij
        · show x1 + _ = _
          rw [i2, dE]
          by_cases t : smM S0 e k = true
          · rw [if_pos t, if_pos ⟨t, hlt2⟩, nI_1]
          · rw [if_neg t, if_neg (fun z => t z.1), Int32.add_zero, Nat.add_zero]
        · show u2 S1 33 0 (S1 33 0 + (if smM S0 e k = true then 0 else 1)) 33 0 = nI (b + if isD S0 mt e = true ∧ (∀ f, mt e = some f → f < k + 1) then 1 else 0)
          rw [u2_self, i3, dD]
          cases t : smM S0 e k with
          | true => rw [if_pos rfl, if_neg (show ¬ ((!true) = true ∧ ∀ f, mt e = some f → f < k + 1) from fun z => Bool.noConfusion z.1), Int32.add_zero, Nat.add_zero]
          | false => rw [if_neg (show ¬ false = true from fun z => Bool.noConfusion z), if_pos (⟨rfl, hlt2⟩ : (!false) = true ∧ ∀ f, mt e = some f → f < k + 1), nI_1]
      · have hiff : (∀ f, mt e = some f → f < k) ↔ ∀ f, mt e = some f → f < k + 1 := by
          constructor
          · exact fun z f hf => Nat.lt_succ_of_lt (z f hf)
          · intro z f hf
            have h1 := z f hf
            have h2 : f ≠ k := fun y => q (by rw [← y]; exact hf)
            omega
        refine ⟨(x1, S1), ⟨i1, ?_, ?_⟩, fun K => (e0 K).trans (if_neg q)⟩
        · show x1 = _
          rw [i2]
          simp only [hiff]
        · show S1 33 0 = _
          rw [i3]
          simp only [hiff])
    (fu := 1000) (s := (nI a, S)) (by omega) ⟨hS, by
      show nI a = _
      by_cases q : mt e = none
      · have : isE S0 mt e = false := by unfold isE; rw [q]
        rw [this, if_neg (fun z => Bool.noConfusion z.1), Nat.add_zero]
      · rw [if_neg (fun z => by
          cases hq : mt e with
          | none => exact q hq
          | some f => exact absurd (z.2 f hq) (Nat.not_lt_zero f)), Nat.add_zero], by
      show S 33 0 = _
      rw [h33]
      by_cases q : mt e = none
      · have : isD S0 mt e = false := by unfold isD; rw [q]
        rw [this, if_neg (fun z => Bool.noConfusion z.1), Nat.add_zero]
      · rw [if_neg (fun z => by
          cases hq : mt e with
          | none => exact q hq
          | some f => exact absurd (z.2 f hq) (Nat.not_lt_zero f)), Nat.add_zero]⟩
  obtain ⟨x1, S'⟩ := s
  have hall : ∀ f, mt e = some f → f < na := fun f hf => hm.1 e f he hf
  have i2' : x1 = nI (a + if isE S0 mt e = true then 1 else 0) := by
    rw [show x1 = _ from i2]
    congr 2
    by_cases t : isE S0 mt e = true
    · rw [if_pos t, if_pos ⟨t, hall⟩]
    · rw [if_neg t, if_neg (fun z => t z.1)]
  have i3' : S' 33 0 = nI (b + if isD S0 mt e = true then 1 else 0) := by
    rw [show S' 33 0 = _ from i3]
    congr 2
    by_cases t : isD S0 mt e = true
    · rw [if_pos t, if_pos ⟨t, hall⟩]
    · rw [if_neg t, if_neg (fun z => t z.1)]
  subst i2'
  refine ⟨S', ⟨i1, i3'⟩, fun K => ?_⟩
  have := e1 (fun s => K s.1 s.2)
  rw [nI_0] at this
  exact this
theorem cnED {S : MM} {mt : Nat → Option Nat} : ∀ k, cn (isE S mt) k + cn (isD S mt) k + cn (fun e => (mt e).isNone) k = k
  | 0 => rfl
  | k + 1 => by
    have ih := cnED (S := S) (mt := mt) k
    unfold cn
    have : (if isE S mt k = true then 1 else 0) + (if isD S mt k = true then 1 else 0) + (if (mt k).isNone = true then 1 else 0) = 1 := by
      unfold isE isD
      cases hq : mt k with
      | none => rfl
      | some f =>
        show (if smM S k f = true then 1 else 0) + (if (!(smM S k f)) = true then 1 else 0) + 0 = 1
        cases smM S k f <;> rfl
    omega
theorem changes_s {S S1 : MM} {n na wt : Nat} {mt : Nat → Option Nat} (hf : m_finds S = some S1) (h3 : S1 3 0 = nI n) (hn : n ≤ 24) (hna : na ≤ 24) (h29 : S1 29 0 = nI na) (h33 : S1 33 0 = 0) (hm : mch S1 n na mt) (hw : na = cn (isE S1 mt) n + cn (isD S1 mt) n + wt) :
    ∃ S' : MM, m_changes S = some S' ∧ (∀ k j, ¬ (k = 33 ∧ j = 0) → S' k j = S1 k j) ∧ S' 33 0 = nI (wt + cn (isD S1 mt) n + cn (fun e => (mt e).isNone) n) := by
  obtain ⟨s, ⟨i1, i2, i3⟩, e1⟩ := lp_0 (σ := Int32 × MM) (α := Option MM) (L := fun K fu k s => m_changes_8 (fun a b => K (a, b)) fu s.1 (nI k) s.2) (n := n)
    (Inv := fun k s => (∀ i j, ¬ (i = 33 ∧ j = 0) → s.2 i j = S1 i j) ∧ s.1 = nI (cn (isE S1 mt) k) ∧ s.2 33 0 = nI (cn (isD S1 mt) k))
    (fun K fu s hi => by
      show m_changes_8 (fun a b => K (a, b)) (fu + 1) s.1 (nI n) s.2 = K s
      rw [m_changes_8, hi.1 3 0 (fun z => absurd z.1 (by decide)), h3, if_pos (Int32.le_refl _)])
    (fun fu k s hk hi => by
      obtain ⟨x1, S2⟩ := s
      obtain ⟨i1, i2, i3⟩ : (∀ i j, ¬ (i = 33 ∧ j = 0) → S2 i j = S1 i j) ∧ x1 = nI (cn (isE S1 mt) k) ∧ S2 33 0 = nI (cn (isD S1 mt) k) := hi
      subst i2
      obtain ⟨S3, ⟨a1, a2⟩, a3⟩ := ch18 (a := cn (isE S1 mt) k) hm hn hna hk h29 i1 i3
      refine ⟨(nI (cn (isE S1 mt) (k + 1)), S3), ⟨a1, rfl, a2⟩, fun K => ?_⟩
      show m_changes_8 (fun a b => K (a, b)) (fu + 1) (nI (cn (isE S1 mt) k)) (nI k) S2 = m_changes_8 (fun a b => K (a, b)) fu (nI (cn (isE S1 mt) (k + 1))) (nI (k + 1)) S3
      rw [m_changes_8, i1 3 0 (fun z => absurd z.1 (by decide)), h3, if_neg (nI_ge hk (by omega)), a3, nI_1]
      rfl)
    (fu := 1000) (s := (0, S1)) (by omega) ⟨fun _ _ _ => rfl, rfl, h33⟩
  obtain ⟨x1, S2⟩ := s
  have i2' : x1 = nI (cn (isE S1 mt) n) := i2
  have i3' : S2 33 0 = nI (cn (isD S1 mt) n) := i3
  have i1' : ∀ i j, ¬ (i = 33 ∧ j = 0) → S2 i j = S1 i j := i1
  clear i1 i2 i3
  subst i2'
  have hc := cnED (S := S1) (mt := mt) n
  have c1 := cn_le (isE S1 mt) n
  have c2 := cn_le (isD S1 mt) n
  generalize cn (isE S1 mt) n = E at hc hw e1 c1
  have e2 := e1 (fun s => bnd (s.1 + s.2 33 0) fun p61 => (bnd (u2 s.2 33 0 ((s.2 33 0) + ((((s.2 3 0) - p61) + (s.2 29 0)) - p61))) fun S62 => (some S62)))
  rw [nI_0] at e2
  refine ⟨u2 S2 33 0 (nI (wt + cn (isD S1 mt) n + cn (fun e => (mt e).isNone) n)), ?_, fun k j hkj => ?_, u2_self _ _ _ _⟩
  · unfold m_changes
    rw [hf, bd_s]
    refine e2.trans ?_
    show bnd (nI E + S2 33 0) (fun p61 => bnd (u2 S2 33 0 (S2 33 0 + (((S2 3 0 - p61) + S2 29 0) - p61))) fun S62 => some S62) = _
    have h32 : S2 3 0 = nI n := (i1' 3 0 (fun z => absurd z.1 (by decide))).trans h3
    have h292 : S2 29 0 = nI na := (i1' 29 0 (fun z => absurd z.1 (by decide))).trans h29
    rw [bnd_s, bnd_s, i3', h32, h292, nI_add]
    generalize cn (isD S1 mt) n = D at hc hw c2 ⊢
    generalize cn (fun e => (mt e).isNone) n = U at hc ⊢
    have e5 : nI D + (nI n - nI (E + D) + nI na - nI (E + D)) = nI (wt + D + U) := by
      have hn' : n = (E + D) + U := by omega
      have hna' : na = (E + D) + wt := by omega
      rw [hn', hna', ← nI_add (E + D) U, ← nI_add (E + D) wt, ← nI_add (wt + D) U, ← nI_add wt D]
      generalize nI (E + D) = x
      have : x + nI U - x + (x + nI wt) - x = nI U + nI wt := by
        simp only [Int32.sub_eq_add_neg]
        have h0 : x + -x = 0 := by rw [← Int32.sub_eq_add_neg, Int32.sub_self]
        have : x + nI U + -x + (x + nI wt) + -x = (x + -x) + (x + -x) + (nI U + nI wt) := by ac_rfl
        rw [this, h0, Int32.zero_add, Int32.zero_add]
      rw [this]
      ac_rfl
    rw [e5]
  · rw [u2_ne hkj]
    exact i1' k j hkj
