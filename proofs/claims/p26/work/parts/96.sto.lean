/-! ===== the model's loops: an invariant for each; numbers ===== -/
theorem lp_n {σ α : Type} {L : (σ → α) → Nat → Nat → σ → α} {n : Nat} {Inv : Nat → σ → Prop} (he : ∀ K fu s, Inv n s → L K (fu + 1) n s = K s)
    (hs : ∀ fu k s, k < n → Inv k s → ∃ s', Inv (k + 1) s' ∧ ∀ K, L K (fu + 1) k s = L K fu (k + 1) s') :
    ∀ m k, k + m = n → ∀ fu s, m + 1 ≤ fu → Inv k s → ∃ s', Inv n s' ∧ ∀ K, L K fu k s = K s' := by
  intro m
  induction m with
  | zero =>
    intro k hk fu s hf hi
    obtain ⟨fu, rfl⟩ : ∃ z, fu = z + 1 := ⟨fu - 1, by omega⟩
    have : k = n := by omega
    subst this
    exact ⟨s, hi, fun K => he K fu s hi⟩
  | succ m ih =>
    intro k hk fu s hf hi
    obtain ⟨fu, rfl⟩ : ∃ z, fu = z + 1 := ⟨fu - 1, by omega⟩
    obtain ⟨s', h1, h2⟩ := hs fu k s (by omega) hi
    obtain ⟨s2, h3, h4⟩ := ih (k + 1) (by omega) fu s' (by omega) h1
    exact ⟨s2, h3, fun K => (h2 K).trans (h4 K)⟩
theorem lp_0 {σ α : Type} {L : (σ → α) → Nat → Nat → σ → α} {n : Nat} {Inv : Nat → σ → Prop} (he : ∀ K fu s, Inv n s → L K (fu + 1) n s = K s)
    (hs : ∀ fu k s, k < n → Inv k s → ∃ s', Inv (k + 1) s' ∧ ∀ K, L K (fu + 1) k s = L K fu (k + 1) s') {fu : Nat} {s : σ} (hn : n + 1 ≤ fu) (h0 : Inv 0 s) : ∃ s', Inv n s' ∧ ∀ K, L K fu 0 s = K s' :=
  lp_n he hs n 0 (Nat.zero_add n) fu s hn h0
theorem i_lt (a b : Int32) : a < b ↔ a.toInt < b.toInt := Int32.lt_iff_toInt_lt
theorem i_le (a b : Int32) : a ≤ b ↔ a.toInt ≤ b.toInt := Int32.le_iff_toInt_le
theorem i_eq (a b : Int32) : a = b ↔ a.toInt = b.toInt := Int32.toInt_inj.symm
theorem nx14 (e : Nat) : (14 : Int32) * nI e = nI (14 * e) := pk_mul 14 e
theorem nx4 (e : Nat) : (4 : Int32) * nI e = nI (4 * e) := pk_mul 4 e
theorem nx3 (e : Nat) : (3 : Int32) * nI e = nI (3 * e) := pk_mul 3 e
theorem nx10 (e : Nat) : (10 : Int32) * nI e = nI (10 * e) := pk_mul 10 e
theorem np2 (e : Nat) : nI e + (2 : Int32) = nI (e + 2) := nI_add e 2
theorem np3 (e : Nat) : nI e + (3 : Int32) = nI (e + 3) := nI_add e 3
theorem np10 (e : Nat) : nI e + (10 : Int32) = nI (e + 10) := nI_add e 10
theorem pn10 (e : Nat) : (10 : Int32) + nI e = nI (10 + e) := nI_add 10 e
theorem ixT {a n : Nat} (h : a < n) (h31 : a < 2 ^ 31) : (ix (nI a) n) = True := eq_true (ix_nI h h31)
theorem nIn1 {a : Nat} (h : a < 2 ^ 31) : (nI a = -1) = False := eq_false (nI_ne1 h)
/-! ===== the model's functions: which rule is stronger ===== -/
/-- what is told of the rules: parts, origin, layer, importance -/
def RTo (S : MM) (R : Nat) : Prop := RSo S R ∧ ∀ r, r < R → ∃ o y b, o < 2 ∧ y < 3 ∧ b < 2 ∧ S 16 r = nI o ∧ S 17 r = nI y ∧ S 18 r = nI b
def gS (S : MM) (r : Nat) : Int32 := gpO (S 16 r) (S 17 r) (S 18 r)
def wS (S : MM) (r : Nat) : Int32 := wtS S r (tn (S 11 r))
def stB (S : MM) (r q : Nat) : Bool := decide ((gS S q).toInt < (gS S r).toInt ∨ ((gS S q).toInt = (gS S r).toInt ∧ ((wS S q).toInt < (wS S r).toInt ∨ ((wS S q).toInt = (wS S r).toInt ∧ q < r))))
theorem stB_iff {S : MM} {r q : Nat} : stB S r q = true ↔ ((gS S q).toInt < (gS S r).toInt ∨ ((gS S q).toInt = (gS S r).toInt ∧ ((wS S q).toInt < (wS S r).toInt ∨ ((wS S q).toInt = (wS S r).toInt ∧ q < r)))) := by
  unfold stB
  exact decide_eq_true_iff
theorem stB_asym {S : MM} {r q : Nat} (h : stB S r q = true) (k : stB S q r = true) : False := by
  rw [stB_iff] at h k
  omega
theorem stB_irr {S : MM} {r : Nat} (h : stB S r r = true) : False := stB_asym h h
theorem stB_tr {S : MM} {r q t : Nat} (h : stB S r q = true) (k : stB S q t = true) : stB S r t = true := by
  rw [stB_iff] at h k ⊢
  omega
theorem stB_tot {S : MM} {r q : Nat} (h : ¬ stB S r q = true) (k : r ≠ q) : stB S q r = true := by
  rw [stB_iff] at h ⊢
  omega
theorem bitC_n : ∀ x, x < 256 → bitC (nI x) = nI (tn (bitC (nI x))) ∧ tn (bitC (nI x)) < 9 := by decide +kernel
theorem wtS_n {S : MM} {R r : Nat} (h : RSo S R) (hr : r < R) : ∃ c, S 11 r = nI c ∧ 1 ≤ c ∧ c ≤ 3 ∧ ∀ k, k ≤ c → ∃ z, z ≤ 161 * k ∧ wtS S r k = nI z := by
  obtain ⟨c, c1, c2, c3, c4⟩ := h.2.2 r hr
  refine ⟨c, c1, c2, c3, fun k => ?_⟩
  induction k with
  | zero => exact fun _ => ⟨0, Nat.le_refl _, rfl⟩
  | succ k ih =>
    intro hk
    obtain ⟨z, z1, z2⟩ := ih (by omega)
    obtain ⟨x, y, x1, y1, x2, y2⟩ := c4 k (by omega)
    obtain ⟨a, ea, ha⟩ : ∃ a, bitC (nI x) = nI a ∧ a < 9 := ⟨_, bitC_n x x1⟩
    obtain ⟨b, eb, hb⟩ : ∃ b, bitC (nI y) = nI b ∧ b < 9 := ⟨_, bitC_n y y1⟩
    show ∃ w, w ≤ _ ∧ wtS S r k + ptW S (3 * r + k) = nI w
    unfold ptW
    rw [x2, y2, z2, ea, eb, nI_add, nx10]
    by_cases t : S 13 (3 * r + k) = -1
    · rw [if_pos t, ← nI_0, nI_add, nI_add]
      exact ⟨_, by omega, rfl⟩
    · rw [if_neg t, nI_1, nI_add]
      exact ⟨_, by omega, rfl⟩
theorem wS_n {S : MM} {R r : Nat} (h : RSo S R) (hr : r < R) : ∃ z, z ≤ 483 ∧ wS S r = nI z := by
  obtain ⟨c, c1, c2, c3, c4⟩ := wtS_n h hr
  obtain ⟨z, z1, z2⟩ := c4 c (Nat.le_refl _)
  refine ⟨z, by omega, ?_⟩
  unfold wS
  rw [c1, tn_nI (by omega)]
  exact z2
theorem gS_n {S : MM} {R r : Nat} (h : RTo S R) (hr : r < R) : gS S r ≠ -1 := by
  obtain ⟨o1, y1, b1, p1, p2, p3, p4, p5, p6⟩ := h.2 r hr
  unfold gS
  rw [p4, p5, p6]
  have : ∀ o, o < 2 → ∀ y, y < 3 → ∀ b, b < 2 → gpO (nI o) (nI y) (nI b) ≠ -1 := by decide +kernel
  exact this o1 p1 y1 p2 b1 p3
theorem isStr_s {S : MM} {R r q : Nat} (h : RTo S R) (hr : r < R) (hq : q < R) : m_isStronger S (nI r) (nI q) = some (if stB S r q = true then 1 else 0) := by
  have h16 := h.1.2.1
  obtain ⟨o1, y1, b1, p1, p2, p3, p4, p5, p6⟩ := h.2 r hr
  obtain ⟨o2, y2, b2, q1, q2, q3, q4, q5, q6⟩ := h.2 q hq
  obtain ⟨G1, G2⟩ := grp_all p1 p2 p3 q1 q2 q3
  have e1 : gS S r = gpO (nI o1) (nI y1) (nI b1) := by unfold gS; rw [p4, p5, p6]
  have e2 : gS S q = gpO (nI o2) (nI y2) (nI b2) := by unfold gS; rw [q4, q5, q6]
  have v1 := weightOf_s h.1 hr
  have v2 := weightOf_s h.1 hq
  obtain ⟨z1, w1, u1⟩ := wS_n h.1 hr
  obtain ⟨z2, w2, u2⟩ := wS_n h.1 hq
  unfold m_isStronger
  rw [if_pos (ix_nI (by omega) (by omega)), if_pos (ix_nI (by omega) (by omega)), tn_nI (by omega), tn_nI (by omega), p4, p5, p6, q4, q5, q6]
  by_cases z : o1 = o2 ∧ y1 = y2 ∧ b1 = b2
  · obtain ⟨t1, t2, t3⟩ := z
    rw [if_pos (by rw [t3]), if_pos (by rw [t1]), if_pos (by rw [t2]), v1, v2, bd_s, bd_s]
    have hs : stB S r q = true ↔ z2 < z1 ∨ z2 = z1 ∧ q < r := by
      rw [stB_iff, e1, e2, t1, t2, t3, u1, u2, nI_toInt (by omega), nI_toInt (by omega)]
      omega
    show some (if (0 : Int32) < wS S r - wS S q then (1 : Int32) else if wS S r - wS S q = 0 then if nI r ≤ nI q then (0 : Int32) else 1 else 0) = _
    rw [u1, u2]
    have d := pk_sub_toInt (a := z1) (b := z2) (by omega) (by omega)
    have c1 : (0 : Int32) < nI z1 - nI z2 ↔ z2 < z1 := by
      rw [i_lt, d, show (0 : Int32).toInt = 0 from rfl]
      omega
    have c2 : nI z1 - nI z2 = 0 ↔ z1 = z2 := by
      rw [i_eq, d, show (0 : Int32).toInt = 0 from rfl]
      omega
    have c3 : nI r ≤ nI q ↔ r ≤ q := nI_leI (by omega) (by omega)
    by_cases a1 : z2 < z1
    · rw [if_pos (c1.mpr a1), if_pos (hs.mpr (Or.inl a1))]
    · rw [if_neg (fun t => a1 (c1.mp t))]
      by_cases a2 : z1 = z2
      · rw [if_pos (c2.mpr a2)]
        by_cases a3 : r ≤ q
        · rw [if_pos (c3.mpr a3), if_neg (fun t => by have := hs.mp t; omega)]
        · rw [if_neg (fun t => a3 (c3.mp t)), if_pos (hs.mpr (Or.inr ⟨a2.symm, by omega⟩))]
      · rw [if_neg (fun t => a2 (c2.mp t)), if_neg (fun t => by have := hs.mp t; omega)]
  · have G := G2 z
    have hg : ¬ gpO (nI o1) (nI y1) (nI b1) = gpO (nI o2) (nI y2) (nI b2) := fun t => z (G1.mp t)
    have hs : stB S r q = true ↔ gpO (nI o2) (nI y2) (nI b2) < gpO (nI o1) (nI y1) (nI b1) := by
      rw [stB_iff, e1, e2, i_lt]
      have : ¬ (gpO (nI o1) (nI y1) (nI b1)).toInt = (gpO (nI o2) (nI y2) (nI b2)).toInt := fun t => hg ((i_eq _ _).mpr t)
      omega
    have hG : ∀ v : Int32, v = (if gpO (nI o2) (nI y2) (nI b2) < gpO (nI o1) (nI y1) (nI b1) then 1 else 0) → some v = some (if stB S r q = true then (1 : Int32) else 0) := fun v hv => by
      rw [hv]
      by_cases t : stB S r q = true
      · rw [if_pos t, if_pos (hs.mp t)]
      · rw [if_neg t, if_neg (fun y => t (hs.mpr y))]
    unfold stG at G
    by_cases hb : nI b1 = nI b2
    · rw [if_pos hb] at G ⊢
      by_cases ho : nI o1 = nI o2
      · rw [if_pos ho] at G ⊢
        by_cases hy : nI y1 = nI y2
        · exact absurd ⟨(nI_eq (by omega) (by omega)).mp ho, (nI_eq (by omega) (by omega)).mp hy, (nI_eq (by omega) (by omega)).mp hb⟩ z
        · rw [if_neg hy]
          exact hG _ G
      · rw [if_neg ho] at G ⊢
        exact hG _ G
    · rw [if_neg hb] at G ⊢
      have hb1 : nI b1 = 0 ∨ nI b1 = 1 := by
        have : b1 = 0 ∨ b1 = 1 := by omega
        rcases this with t | t
        · exact Or.inl (by rw [t]; rfl)
        · exact Or.inr (by rw [t]; rfl)
      rw [if_pos hb1]
      exact hG _ G
/-! ===== the model's functions: tells ===== -/
/-- who decides by the rules listed, the strongest first; g: the group that is passed over -/
def cl (S : MM) (p : Nat) : List Nat → Int32 → Option Nat
  | [], _ => none
  | r :: rs, g => if S 20 (14 * r + p) = 0 ∨ gS S r = g then cl S p rs g else if S 20 (14 * r + p) = 2 ∧ S 21 (14 * r + p) = 3 then cl S p rs (gS S r) else some r
theorem cl_skip {S : MM} {p : Nat} {g : Int32} {l2 : List Nat} : ∀ {l : List Nat}, (∀ r, r ∈ l → S 20 (14 * r + p) = 0 ∨ gS S r = g) → cl S p (l ++ l2) g = cl S p l2 g
  | [], _ => rfl
  | r :: rs, h => by
    rw [List.cons_append, cl, if_pos (h r List.mem_cons_self)]
    exact cl_skip (fun q hq => h q (List.mem_cons_of_mem _ hq))
def isBest (S : MM) (P : Nat → Prop) (k : Nat) (o : Option Nat) : Prop := match o with
  | none => ∀ r, r < k → ¬ P r
  | some b => b < k ∧ P b ∧ ∀ r, r < k → P r → r = b ∨ stB S b r = true
theorem isBest_sk {S : MM} {P : Nat → Prop} {k : Nat} {o : Option Nat} (h : isBest S P k o) (hk : ¬ P k) : isBest S P (k + 1) o := by
  cases o with
  | none =>
    intro r hr
    by_cases q : r = k
    · rw [q]; exact hk
    · exact h r (by omega)
  | some b =>
    obtain ⟨h1, h2, h3⟩ := h
    refine ⟨by omega, h2, fun r hr hP => ?_⟩
    by_cases q : r = k
    · rw [q] at hP; exact absurd hP hk
    · exact h3 r (by omega) hP
theorem isBest_n {S : MM} {P : Nat → Prop} {k : Nat} (h : isBest S P k none) (hk : P k) : isBest S P (k + 1) (some k) :=
  ⟨by omega, hk, fun r hr hP => by
    by_cases q : r = k
    · exact Or.inl q
    · exact absurd hP (h r (by omega))⟩
theorem isBest_y {S : MM} {P : Nat → Prop} {k b : Nat} (h : isBest S P k (some b)) (hk : P k) (hs : stB S k b = true) : isBest S P (k + 1) (some k) :=
  ⟨by omega, hk, fun r hr hP => by
    by_cases q : r = k
    · exact Or.inl q
    · rcases h.2.2 r (by omega) hP with z | z
      · rw [z]; exact Or.inr hs
      · exact Or.inr (stB_tr hs z)⟩
theorem isBest_o {S : MM} {P : Nat → Prop} {k b : Nat} (h : isBest S P k (some b)) (hs : ¬ stB S k b = true) : isBest S P (k + 1) (some b) :=
  ⟨Nat.lt_succ_of_lt h.1, h.2.1, fun r hr hP => by
    by_cases q : r = k
    · have hb := h.1
      rw [q]
      exact Or.inr (stB_tot hs (by omega))
    · exact h.2.2 r (by omega) hP⟩
/-- a rule is one of those that may tell, behind o -/
def Pt (S : MM) (p : Nat) (o : Option Nat) (r : Nat) : Prop := S 20 (14 * r + p) ≠ 0 ∧ S 36 r ≠ 0 ∧ ∀ a, o = some a → stB S a r = true ∧ gS S a ≠ gS S r
theorem if1 {c : Prop} [Decidable c] : ((if c then (1 : Int32) else 0) = 0) ↔ ¬ c := by
  by_cases q : c
  · rw [if_pos q]; exact ⟨fun z => absurd z (by decide), fun z => absurd q z⟩
  · rw [if_neg q]; exact ⟨fun _ => q, fun _ => rfl⟩
theorem gS_iff {S : MM} {R a r : Nat} (h : RTo S R) (ha : a < R) (hr : r < R) : gS S a = gS S r ↔ S 16 a = S 16 r ∧ S 17 a = S 17 r ∧ S 18 a = S 18 r := by
  obtain ⟨o1, y1, b1, p1, p2, p3, p4, p5, p6⟩ := h.2 a ha
  obtain ⟨o2, y2, b2, q1, q2, q3, q4, q5, q6⟩ := h.2 r hr
  unfold gS
  rw [p4, p5, p6, q4, q5, q6, (grp_all p1 p2 p3 q1 q2 q3).1, nI_eq (by omega) (by omega), nI_eq (by omega) (by omega), nI_eq (by omega) (by omega)]
theorem grp_if {S : MM} {R a r : Nat} (h : RTo S R) (ha : a < R) (hr : r < R) : (if S 16 a = S 16 r then if S 17 a = S 17 r then if S 18 a = S 18 r then (0 : Int32) else 1 else 1 else 1) = if gS S a = gS S r then 0 else 1 := by
  have G := gS_iff h ha hr
  by_cases q : gS S a = gS S r
  · obtain ⟨q1, q2, q3⟩ := G.mp q
    rw [if_pos q, if_pos q1, if_pos q2, if_pos q3]
  · rw [if_neg q]
    by_cases q1 : S 16 a = S 16 r
    · rw [if_pos q1]
      by_cases q2 : S 17 a = S 17 r
      · rw [if_pos q2, if_neg (fun q3 => q (G.mpr ⟨q1, q2, q3⟩))]
      · rw [if_neg q2]
    · rw [if_neg q1]
/-- one step of the search for the strongest -/
theorem tells_p {S : MM} {R p k fu : Nat} {o b : Option Nat} (h : RTo S R) (hp : p < 14) (ho : ∀ a, o = some a → a < R) (hk : k < R) (hb : ∀ c, b = some c → c < R) (K : Int32 → Option Int32) :
    (Pt S p o k → m_tells_16 K S (nI p) (eo o) (fu + 1) (eo b) (nI k) = m_tells_16 K S (nI p) (eo o) fu (match b with | none => nI k | some c => if stB S k c = true then nI k else nI c) (nI (k + 1))) ∧
    (¬ Pt S p o k → m_tells_16 K S (nI p) (eo o) (fu + 1) (eo b) (nI k) = m_tells_16 K S (nI p) (eo o) fu (eo b) (nI (k + 1))) := by
  have h16 := h.1.2.1
  have hR := h.1.1
  have hi : 14 * k + p < 224 := by omega
  have hlt : ¬ R ≤ k := by omega
  have hk16 : k < 16 := by omega
  have step : ∀ x : Int32, x = 0 ∨ x = 1 → (if x = 0 then m_tells_16 K S (nI p) (eo o) fu (eo b) (nI (k + 1)) else if eo b = -1 then m_tells_16 K S (nI p) (eo o) fu (nI k) (nI (k + 1)) else bd (m_isStronger S (nI k) (eo b)) fun p23 => bnd (if p23 = 0 then eo b else nI k) fun p26 => m_tells_16 K S (nI p) (eo o) fu p26 (nI (k + 1))) =
      m_tells_16 K S (nI p) (eo o) fu (if x = 0 then eo b else match b with | none => nI k | some c => if stB S k c = true then nI k else nI c) (nI (k + 1)) := by
    intro x hx
    rcases hx with rfl | rfl
    · rfl
    · cases b with
      | none => rfl
      | some c =>
        have hc := hb c rfl
        show (if nI c = -1 then _ else bd (m_isStronger S (nI k) (nI c)) _) = m_tells_16 K S (nI p) (eo o) fu (if stB S k c = true then nI k else nI c) (nI (k + 1))
        rw [if_neg (nI_ne1 (by omega)), isStr_s h hk hc, bd_s, bnd_s]
        by_cases q : stB S k c = true
        · rw [if_pos q, if_pos q]; rfl
        · rw [if_neg q, if_neg q]; rfl
  have e0 : m_tells_16 K S (nI p) (eo o) (fu + 1) (eo b) (nI k) = bnd (if S 20 (14 * k + p) = 0 then (0 : Int32) else if S 36 k = 0 then 0 else 1) fun p15 => if eo o = -1 then (if p15 = 0 then m_tells_16 K S (nI p) (eo o) fu (eo b) (nI (k + 1)) else if eo b = -1 then m_tells_16 K S (nI p) (eo o) fu (nI k) (nI (k + 1)) else bd (m_isStronger S (nI k) (eo b)) fun p23 => bnd (if p23 = 0 then eo b else nI k) fun p26 => m_tells_16 K S (nI p) (eo o) fu p26 (nI (k + 1)))
      else bd (m_isStronger S (eo o) (nI k)) fun p27 => if (¬ (p27 = 0) → (ix (eo o) 16 ∧ ix (nI k) 16)) then bnd (if p27 = 0 then (0 : Int32) else if S 16 (tn (eo o)) = S 16 (tn (nI k)) then if S 17 (tn (eo o)) = S 17 (tn (nI k)) then if S 18 (tn (eo o)) = S 18 (tn (nI k)) then 0 else 1 else 1 else 1) fun p36 => if p15 = 0 then m_tells_16 K S (nI p) (eo o) fu (eo b) (nI (k + 1)) else if p36 = 0 then m_tells_16 K S (nI p) (eo o) fu (eo b) (nI (k + 1)) else if eo b = -1 then m_tells_16 K S (nI p) (eo o) fu (nI k) (nI (k + 1)) else bd (m_isStronger S (nI k) (eo b)) fun p43 => bnd (if p43 = 0 then eo b else nI k) fun p46 => m_tells_16 K S (nI p) (eo o) fu p46 (nI (k + 1)) else none := by
    rw [m_tells_16]
    simp (disch := omega) only [hR, nI_leI, hlt, nx14, nI_add, nI_1, ixT, tn_nI, ↓reduceIte, implies_true]
    rfl
  rw [e0, bnd_s]
  by_cases d0 : S 20 (14 * k + p) = 0
  · rw [if_pos d0]
    refine ⟨fun z => absurd d0 z.1, fun _ => ?_⟩
    cases o with
    | none => rfl
    | some a =>
      have ha := ho a rfl
      show (if nI a = -1 then _ else bd (m_isStronger S (nI a) (nI k)) _) = _
      rw [if_neg (nI_ne1 (by omega)), isStr_s h ha hk, bd_s, if_pos (fun _ => ⟨ix_nI (by omega) (by omega), ix_nI (by omega) (by omega)⟩), bnd_s]
      rfl
  · rw [if_neg d0]
    by_cases t0 : S 36 k = 0
    · rw [if_pos t0]
      refine ⟨fun z => absurd t0 z.2.1, fun _ => ?_⟩
      cases o with
      | none => rfl
      | some a =>
        have ha := ho a rfl
        show (if nI a = -1 then _ else bd (m_isStronger S (nI a) (nI k)) _) = _
        rw [if_neg (nI_ne1 (by omega)), isStr_s h ha hk, bd_s, if_pos (fun _ => ⟨ix_nI (by omega) (by omega), ix_nI (by omega) (by omega)⟩), bnd_s]
        rfl
    · rw [if_neg t0]
      cases o with
      | none => exact ⟨fun _ => step 1 (Or.inr rfl), fun z => absurd ⟨d0, t0, fun _ q => nomatch q⟩ z⟩
      | some a =>
        have ha := ho a rfl
        have e1 : ∀ A B : Option Int32, (if eo (some a) = -1 then A else B) = B := fun A B => if_neg (nI_ne1 (by omega))
        rw [e1]
        show (_ → bd (m_isStronger S (nI a) (nI k)) _ = _) ∧ (_ → bd (m_isStronger S (nI a) (nI k)) _ = _)
        rw [isStr_s h ha hk, bd_s, if_pos (fun _ => ⟨ix_nI (by omega) (by omega), ix_nI (by omega) (by omega)⟩), bnd_s, show tn (eo (some a)) = a from tn_nI (by omega), tn_nI (by omega), grp_if h ha hk]
        by_cases sB : stB S a k = true
        · rw [if_pos sB]
          by_cases gE : gS S a = gS S k
          · rw [if_pos gE]
            exact ⟨fun z => absurd gE (z.2.2 a rfl).2, fun _ => rfl⟩
          · rw [if_neg gE]
            exact ⟨fun _ => step 1 (Or.inr rfl), fun z => absurd ⟨d0, t0, fun c hc => by cases hc; exact ⟨sB, gE⟩⟩ z⟩
        · rw [if_neg sB]
          exact ⟨fun z => absurd (z.2.2 a rfl).1 sB, fun _ => rfl⟩
theorem tells_l {S : MM} {R p : Nat} {o : Option Nat} (h : RTo S R) (hp : p < 14) (ho : ∀ a, o = some a → a < R) :
    ∃ b, isBest S (Pt S p o) R b ∧ ∀ K0, m_tells_16 K0 S (nI p) (eo o) 1000 (-1) 0 = K0 (eo b) := by
  have h16 := h.1.2.1
  have he : ∀ (K : Int32 → Option Int32) (fu : Nat) (x : Int32), (∃ b, x = eo b ∧ isBest S (Pt S p o) R b) → m_tells_16 K S (nI p) (eo o) (fu + 1) x (nI R) = K x := fun K fu x _ => by
    rw [m_tells_16, h.1.1, if_pos (nI_le (Nat.le_refl _) (by omega))]
  have hs : ∀ (fu k : Nat) (x : Int32), k < R → (∃ b, x = eo b ∧ isBest S (Pt S p o) k b) → ∃ x', (∃ b, x' = eo b ∧ isBest S (Pt S p o) (k + 1) b) ∧ ∀ K, m_tells_16 K S (nI p) (eo o) (fu + 1) x (nI k) = m_tells_16 K S (nI p) (eo o) fu x' (nI (k + 1)) := by
    intro fu k x hk hx
    obtain ⟨b, ex, hb⟩ := hx
    subst ex
    have hbR : ∀ c, b = some c → c < R := fun c hc => by subst hc; exact Nat.lt_trans hb.1 hk
    by_cases hP : Pt S p o k
    · cases b with
      | none => exact ⟨_, ⟨some k, rfl, isBest_n hb hP⟩, fun K => (tells_p h hp ho hk hbR K).1 hP⟩
      | some c =>
        by_cases q : stB S k c = true
        · refine ⟨_, ⟨some k, rfl, isBest_y hb hP q⟩, fun K => ((tells_p h hp ho hk hbR K).1 hP).trans ?_⟩
          show m_tells_16 K S (nI p) (eo o) fu (if stB S k c = true then nI k else nI c) (nI (k + 1)) = _
          rw [if_pos q]
          rfl
        · refine ⟨_, ⟨some c, rfl, isBest_o hb q⟩, fun K => ((tells_p h hp ho hk hbR K).1 hP).trans ?_⟩
          show m_tells_16 K S (nI p) (eo o) fu (if stB S k c = true then nI k else nI c) (nI (k + 1)) = _
          rw [if_neg q]
          rfl
    · exact ⟨_, ⟨b, rfl, isBest_sk hb hP⟩, fun K => (tells_p h hp ho hk hbR K).2 hP⟩
  obtain ⟨x, ⟨b, ex, hb⟩, e⟩ := lp_0 (L := fun K fu k x => m_tells_16 K S (nI p) (eo o) fu x (nI k)) he hs (fu := 1000) (s := -1) (by omega) ⟨none, rfl, fun r hr => absurd hr (Nat.not_lt_zero r)⟩
  subst ex
  exact ⟨b, hb, e⟩
/-- what the search behind o finds, where the list goes on -/
def Cn (S : MM) (R p : Nat) (o : Option Nat) (post : List Nat) (g : Int32) : Prop := ∀ r, r < R → (Pt S p o r ↔ r ∈ post ∧ S 20 (14 * r + p) ≠ 0 ∧ gS S r ≠ g)
theorem tells_k {S : MM} {R p : Nat} {xs : List Nat} (h : RTo S R) (hp : p < 14) (hx : ∀ r, r ∈ xs ↔ r < R ∧ S 36 r ≠ 0) (hs : xs.Pairwise (fun a b => stB S a b = true)) :
    ∀ (n : Nat) (pre post : List Nat) (o : Option Nat) (g : Int32) (fu : Nat), post.length ≤ n → n + 2 ≤ fu → xs = pre ++ post → (∀ a, o = some a → a < R) → Cn S R p o post g → m_tells_5 S (nI p) fu (eo o) 1 = some (eo (cl S p post g)) := by
  have h16 := h.1.2.1
  intro n
  induction n with
  | zero =>
    intro pre post o g fu hl hf hxp ho hC
    have hpo : post = [] := List.eq_nil_of_length_eq_zero (Nat.le_zero.mp hl)
    subst hpo
    obtain ⟨fu, rfl⟩ : ∃ z, fu = z + 2 := ⟨fu - 2, by omega⟩
    obtain ⟨b, hb, e⟩ := tells_l h hp ho
    cases b with
    | none =>
      rw [m_tells_5, if_neg (by decide), e]
      rfl
    | some c => exact absurd ((hC c hb.1).mp hb.2.1).1 (by intro z; cases z)
  | succ n ih =>
    intro pre post o g fu hl hf hxp ho hC
    obtain ⟨fu, rfl⟩ : ∃ z, fu = z + 1 := ⟨fu - 1, by omega⟩
    obtain ⟨b, hb, e⟩ := tells_l h hp ho
    have hin : ∀ r, r ∈ post → r < R := fun r hr => ((hx r).mp (by rw [hxp]; exact List.mem_append_right _ hr)).1
    rw [m_tells_5, if_neg (by decide), e]
    cases b with
    | none =>
      have hz : cl S p post g = none := by
        have := cl_skip (S := S) (p := p) (g := g) (l2 := []) (l := post) (fun r hr => by
          by_cases d : S 20 (14 * r + p) = 0
          · exact Or.inl d
          · by_cases q : gS S r = g
            · exact Or.inr q
            · exact absurd ((hC r (hin r hr)).mpr ⟨hr, d, q⟩) (hb r (hin r hr)))
        rw [List.append_nil] at this
        exact this
      rw [hz]
      obtain ⟨fu, rfl⟩ : ∃ z, fu = z + 1 := ⟨fu - 1, by omega⟩
      rfl
    | some c =>
      obtain ⟨c1, c2, c3⟩ := hb
      obtain ⟨d1, d2, d3⟩ := (hC c c1).mp c2
      obtain ⟨p1, p2, ep⟩ := List.append_of_mem d1
      have hpw := hs
      rw [hxp, ep] at hpw
      have w1 := List.pairwise_append.mp hpw
      have w2 := List.pairwise_append.mp w1.2.1
      have w3 := List.pairwise_cons.mp w2.2.1
      have hsk : ∀ r, r ∈ p1 → S 20 (14 * r + p) = 0 ∨ gS S r = g := fun r hr => by
        have hrp : r ∈ post := by rw [ep]; exact List.mem_append_left _ hr
        have hst : stB S r c = true := w2.2.2 r hr c List.mem_cons_self
        by_cases d : S 20 (14 * r + p) = 0
        · exact Or.inl d
        · by_cases q : gS S r = g
          · exact Or.inr q
          · rcases c3 r (hin r hrp) ((hC r (hin r hrp)).mpr ⟨hrp, d, q⟩) with z | z
            · rw [z] at hst; exact (stB_irr hst).elim
            · exact (stB_asym hst z).elim
      have ecl : cl S p post g = if S 20 (14 * c + p) = 2 ∧ S 21 (14 * c + p) = 3 then cl S p p2 (gS S c) else some c := by
        rw [ep, cl_skip hsk, cl, if_neg (fun z => z.elim d2 d3)]
      have hi : 14 * c + p < 224 := by omega
      rw [ecl]
      show bnd (if nI c = -1 then (0 : Int32) else nI c) (fun p56 => bnd ((14 : Int32) * p56 + nI p) fun p57 => if (¬ (nI c = -1) → ix p57 224) then bnd (if nI c = -1 then (0 : Int32) else if S 20 (tn p57) = 2 then if S 21 (tn p57) = 3 then 1 else 0 else 0) (fun p64 => m_tells_5 S (nI p) fu (nI c) p64) else none) = _
      rw [if_neg (nI_ne1 (by omega)), bnd_s, bnd_s, nx14, nI_add, if_pos (fun _ => ix_nI hi (by omega)), bnd_s, tn_nI (by omega), if_neg (nI_ne1 (by omega))]
      obtain ⟨fu, rfl⟩ : ∃ z, fu = z + 1 := ⟨fu - 1, by omega⟩
      by_cases k1 : S 20 (14 * c + p) = 2
      · by_cases k2 : S 21 (14 * c + p) = 3
        · rw [if_pos k1, if_pos k2, if_pos ⟨k1, k2⟩]
          refine ih (pre ++ p1 ++ [c]) p2 (some c) (gS S c) (fu + 1) ?_ (by omega) ?_ (fun a ha => by cases ha; exact c1) ?_
          · have := congrArg List.length ep
            rw [List.length_append, List.length_cons] at this
            omega
          · rw [hxp, ep, List.append_assoc, List.append_assoc]
            rfl
          · intro r hr
            constructor
            · rintro ⟨x1, x2, x3⟩
              obtain ⟨y1, y2⟩ := x3 c rfl
              have hm := (hx r).mpr ⟨hr, x2⟩
              rw [hxp, ep] at hm
              rcases List.mem_append.mp hm with m | m
              · exact (stB_asym y1 (w1.2.2 r m c (List.mem_append_right _ List.mem_cons_self))).elim
              · rcases List.mem_append.mp m with m | m
                · exact (stB_asym y1 (w2.2.2 r m c List.mem_cons_self)).elim
                · rcases List.mem_cons.mp m with m | m
                  · rw [m] at y1; exact (stB_irr y1).elim
                  · exact ⟨m, x1, fun z => y2 z.symm⟩
            · rintro ⟨x1, x2, x3⟩
              have hm : r ∈ xs := by rw [hxp, ep]; exact List.mem_append_right _ (List.mem_append_right _ (List.mem_cons_of_mem _ x1))
              exact ⟨x2, ((hx r).mp hm).2, fun a ha => by cases ha; exact ⟨w3.1 r x1, fun z => x3 z.symm⟩⟩
        · rw [if_pos k1, if_neg k2, if_neg (fun z => k2 z.2)]
          rfl
      · rw [if_neg k1, if_neg (fun z => k1 z.1)]
        rfl
theorem tells_s {S : MM} {R p : Nat} {xs : List Nat} (h : RTo S R) (hp : p < 14) (hx : ∀ r, r ∈ xs ↔ r < R ∧ S 36 r ≠ 0) (hs : xs.Pairwise (fun a b => stB S a b = true)) (hl : xs.length ≤ 900) (a0 : Int32) : m_tells S a0 (nI p) = some (eo (cl S p xs (-1))) := by
  refine tells_k h hp hx hs xs.length [] xs none (-1) 1000 (Nat.le_refl _) (by omega) rfl (fun a z => nomatch z) (fun r hr => ?_)
  constructor
  · rintro ⟨x1, x2, -⟩
    exact ⟨(hx r).mpr ⟨hr, x2⟩, x1, gS_n h hr⟩
  · rintro ⟨x1, x2, -⟩
    exact ⟨x2, ((hx r).mp x1).2, fun a z => nomatch z⟩
