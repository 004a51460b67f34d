/-! ===== a removal: what is told of the tree ===== -/
theorem ach_st {S : MM} {n : Nat} (h : TS S n) : ∀ e, e < n → ∀ f g, e < f → e < g → ach S f e = ach S g e := by
  intro e
  induction e using Nat.strongRecOn with
  | ind e ih =>
    intro he f g hf hg
    obtain ⟨f, rfl⟩ : ∃ z, f = z + 1 := ⟨f - 1, by omega⟩
    obtain ⟨g, rfl⟩ : ∃ z, g = z + 1 := ⟨g - 1, by omega⟩
    rw [ach, ach]
    cases hp : par S e with
    | none => rfl
    | some q =>
      have hq := (par_S h he).2 q hp
      show e :: ach S f q = e :: ach S g q
      rw [ih q hq.1 hq.2 f g (by omega) (by omega)]
theorem blo_u {S : MM} {n p e q : Nat} (h : TS S n) (he : e < n) (hp : par S e = some q) : blo S p e = true ↔ e = p ∨ blo S p q = true := by
  have h24 := h.2.2.1
  obtain ⟨q1, q2⟩ := (par_S h he).2 q hp
  have e1 : ach S 25 e = e :: ach S 24 q := by
    show ach S (24 + 1) e = _
    rw [ach, hp]
  unfold blo
  rw [decide_eq_true_iff, decide_eq_true_iff, e1, ach_st h q q2 24 25 (by omega) (by omega), List.mem_cons]
  exact ⟨fun z => z.imp Eq.symm id, fun z => z.imp Eq.symm id⟩
theorem blo_p {S : MM} {p : Nat} : blo S p p = true := by
  unfold blo
  rw [decide_eq_true_iff]
  show p ∈ ach S (24 + 1) p
  rw [ach]
  exact List.mem_cons_self
theorem blo_0 {S : MM} {n p : Nat} (h : TS S n) (hp : 0 < p) : ¬ blo S p 0 = true := by
  unfold blo
  rw [decide_eq_true_iff]
  show ¬ p ∈ ach S (24 + 1) 0
  rw [ach, par_0 h]
  intro w
  rcases List.mem_cons.mp w with z | z
  · omega
  · cases z
theorem st_i {S : MM} {p e : Nat} : stay S p e = true ↔ ¬ blo S p e = true := by
  unfold stay
  cases blo S p e
  · exact ⟨fun _ z => (by cases z), fun _ => rfl⟩
  · exact ⟨fun z => (by cases z), fun z => absurd rfl z⟩
theorem st_np {S : MM} {p e : Nat} (h : stay S p e = true) : e ≠ p := fun z => st_i.mp h (z ▸ blo_p)
theorem st_up {S : MM} {n p e q : Nat} (h : TS S n) (he : e < n) (hp : par S e = some q) (hs : stay S p e = true) : stay S p q = true :=
  st_i.mpr (fun z => st_i.mp hs ((blo_u h he hp).mpr (Or.inr z)))
theorem st_ch {S : MM} {n p c q : Nat} (h : TS S n) (hc : c < n) (hp : par S c = some q) (hs : stay S p q = true) (hn : c ≠ p) : stay S p c = true :=
  st_i.mpr (fun z => ((blo_u h hc hp).mp z).elim hn (st_i.mp hs))
theorem cn_mo {P : Nat → Bool} {a : Nat} : ∀ {b : Nat}, a ≤ b → cn P a ≤ cn P b
  | 0, h => by
    have : a = 0 := by omega
    rw [this]
    exact Nat.le_refl _
  | b + 1, h => by
    by_cases q : a = b + 1
    · rw [q]
      exact Nat.le_refl _
    · have := cn_mo (P := P) (a := a) (b := b) (by omega)
      rw [cn_s]
      omega
theorem kp_at {P : Nat → Bool} {n j : Nat} (hj : j < cn P n) : ∃ c, c < n ∧ P c = true ∧ cn P c = j := by
  have hl : j < ((List.range n).filter P).length := by
    rw [cn_flt]
    exact hj
  exact ⟨_, cn_at (List.getElem?_eq_getElem hl)⟩
theorem LsO_m {V : Nat → Bool} {n a : Nat} {P Q : Nat → Prop} {o : Option Nat} (hq : ∀ c, c < n → V c = true → (Q (cn V c) ↔ P c)) (hs : ∀ c, c < n → P c → V c = true) (h : LsO P a n o) : LsO Q (cn V a) (cn V n) (o.map (cn V)) := by
  cases o with
  | none =>
    intro j h1 h2 h3
    obtain ⟨c, c1, c2, c3⟩ := kp_at h2
    subst c3
    refine h c (Nat.le_of_not_lt fun w => ?_) c1 ((hq c c1 c2).mp h3)
    have := cn_lt w c2
    omega
  | some b =>
    obtain ⟨b1, b2, b3, b4⟩ := h
    refine ⟨cn_mo b1, cn_lt b2 (hs b b2 b3), (hq b b2 (hs b b2 b3)).mpr b3, fun j h1 h2 h3 => ?_⟩
    obtain ⟨c, c1, c2, c3⟩ := kp_at (Nat.lt_trans h2 (cn_lt b2 (hs b b2 b3)))
    subst c3
    refine b4 c (Nat.le_of_not_lt fun w => ?_) (Nat.lt_of_not_le fun w => ?_) ((hq c c1 c2).mp h3)
    · have := cn_lt w c2
      omega
    · have := cn_mo (P := V) w
      omega
theorem GsO_m {V : Nat → Bool} {n b : Nat} {P Q : Nat → Prop} {o : Option Nat} (hb : b ≤ n) (hq : ∀ c, c < n → V c = true → (Q (cn V c) ↔ P c)) (hs : ∀ c, c < n → P c → V c = true) (h : GsO P b o) : GsO Q (cn V b) (o.map (cn V)) := by
  have hbn := cn_mo (P := V) hb
  cases o with
  | none =>
    intro j h2 h3
    obtain ⟨c, c1, c2, c3⟩ := kp_at (Nat.lt_of_lt_of_le h2 hbn)
    subst c3
    refine h c (Nat.lt_of_not_le fun w => ?_) ((hq c c1 c2).mp h3)
    have := cn_mo (P := V) w
    omega
  | some a =>
    obtain ⟨b2, b3, b4⟩ := h
    have an : a < n := by omega
    refine ⟨cn_lt b2 (hs a an b3), (hq a an (hs a an b3)).mpr b3, fun j h1 h2 h3 => ?_⟩
    obtain ⟨c, c1, c2, c3⟩ := kp_at (Nat.lt_of_lt_of_le h2 hbn)
    subst c3
    refine b4 c (Nat.lt_of_not_le fun w => ?_) (Nat.lt_of_not_le fun w => ?_) ((hq c c1 c2).mp h3)
    · have := cn_mo (P := V) w
      omega
    · have := cn_mo (P := V) w
      omega
/-- the links when p has gone -/
def nxr (S : MM) (n p e : Nat) : Option Nat := if ahS S p p = some e then nxS S n p else nxS S n e
def ahr (S : MM) (n p e : Nat) : Option Nat := if nxS S n p = some e then ahS S p p else ahS S e e
def hdr (S : MM) (n p e : Nat) : Option Nat := if ahS S p p = none ∧ par S p = some e then nxS S n p else (chl S n e).head?
def glr (S : MM) (n p e : Nat) : Option Nat := if nxS S n p = none ∧ par S p = some e then ahS S p p else (chl S n e).getLast?
theorem nxr_L {S : MM} {n p e q pp : Nat} (h : TS S n) (hp : p < n) (hpp : par S p = some pp) (he : e < n) (hq : par S e = some q) : LsO (fun c => sib S q c ∧ c ≠ p) (e + 1) n (nxr S n p e) := by
  have G := ah_G h hp hpp
  unfold nxr
  by_cases c1 : ahS S p p = some e
  · rw [if_pos c1]
    rw [c1] at G
    obtain ⟨g1, g2, g3⟩ := G
    have eq : q = pp := by
      have g2 : par S e = some pp := g2
      rw [hq] at g2
      exact Option.some.inj g2
    rw [eq]
    have L := nx_L hp hpp
    cases ho : nxS S n p with
    | none =>
      rw [ho] at L
      rintro c h1 h2 ⟨h3, h4⟩
      rcases Nat.lt_trichotomy c p with w | w | w
      · exact g3 c h1 w h3
      · exact h4 w
      · exact L c w h2 h3
    | some b =>
      rw [ho] at L
      obtain ⟨l1, l2, l3, l4⟩ := L
      refine ⟨by omega, l2, ⟨l3, by omega⟩, fun c h1 h2 h => ?_⟩
      obtain ⟨h3, h4⟩ := h
      rcases Nat.lt_trichotomy c p with w | w | w
      · exact g3 c h1 w h3
      · exact h4 w
      · exact l4 c w h2 h3
  · rw [if_neg c1]
    have L := nx_L he hq
    cases ho : nxS S n e with
    | none =>
      rw [ho] at L
      exact fun c h1 h2 h3 => L c h1 h2 h3.1
    | some b =>
      rw [ho] at L
      obtain ⟨l1, l2, l3, l4⟩ := L
      refine ⟨l1, l2, ⟨l3, fun w => c1 ?_⟩, fun c h1 h2 h3 => l4 c h1 h2 h3.1⟩
      subst w
      have l3 : par S b = some q := l3
      rw [hpp] at l3
      cases l3
      exact GsO_u G ⟨l1, hq, fun d d1 d2 => l4 d d1 d2⟩
theorem ahr_G {S : MM} {n p e q pp : Nat} (h : TS S n) (hp : p < n) (hpp : par S p = some pp) (he : e < n) (hq : par S e = some q) : GsO (fun c => sib S q c ∧ c ≠ p) e (ahr S n p e) := by
  have L := nx_L hp hpp
  unfold ahr
  by_cases c1 : nxS S n p = some e
  · rw [if_pos c1]
    rw [c1] at L
    obtain ⟨l1, l2, l3, l4⟩ := L
    have eq : q = pp := by
      have l3 : par S e = some pp := l3
      rw [hq] at l3
      exact Option.some.inj l3
    rw [eq]
    have G := ah_G h hp hpp
    cases ho : ahS S p p with
    | none =>
      rw [ho] at G
      rintro c h2 ⟨h3, h4⟩
      rcases Nat.lt_trichotomy c p with w | w | w
      · exact G c w h3
      · exact h4 w
      · exact l4 c w h2 h3
    | some b =>
      rw [ho] at G
      obtain ⟨g1, g2, g3⟩ := G
      refine ⟨by omega, ⟨g2, by omega⟩, fun c h1 h2 h => ?_⟩
      obtain ⟨h3, h4⟩ := h
      rcases Nat.lt_trichotomy c p with w | w | w
      · exact g3 c h1 w h3
      · exact h4 w
      · exact l4 c w h2 h3
  · rw [if_neg c1]
    have G := ah_G h he hq
    cases ho : ahS S e e with
    | none =>
      rw [ho] at G
      exact fun c h2 h3 => G c h2 h3.1
    | some b =>
      rw [ho] at G
      obtain ⟨g1, g2, g3⟩ := G
      refine ⟨g1, ⟨g2, fun w => c1 ?_⟩, fun c h1 h2 h3 => g3 c h1 h2 h3.1⟩
      subst w
      have g2 : par S b = some q := g2
      rw [hpp] at g2
      cases g2
      exact LsO_u L ⟨g1, he, hq, fun d d1 d2 => g3 d d1 d2⟩
theorem hdr_L {S : MM} {n p e pp : Nat} (h : TS S n) (hp : p < n) (hpp : par S p = some pp) : LsO (fun c => sib S e c ∧ c ≠ p) 0 n (hdr S n p e) := by
  have G := ah_G h hp hpp
  have D := hd_L (S := S) n e
  unfold hdr
  by_cases c1 : ahS S p p = none ∧ par S p = some e
  · rw [if_pos c1]
    rw [c1.1] at G
    have eq : pp = e := by
      have := c1.2
      rw [hpp] at this
      exact Option.some.inj this
    rw [eq] at G hpp
    have L := nx_L hp hpp
    cases ho : nxS S n p with
    | none =>
      rw [ho] at L
      rintro c h1 h2 ⟨h3, h4⟩
      rcases Nat.lt_trichotomy c p with w | w | w
      · exact G c w h3
      · exact h4 w
      · exact L c w h2 h3
    | some b =>
      rw [ho] at L
      obtain ⟨l1, l2, l3, l4⟩ := L
      refine ⟨by omega, l2, ⟨l3, by omega⟩, fun c h1 h2 h => ?_⟩
      obtain ⟨h3, h4⟩ := h
      rcases Nat.lt_trichotomy c p with w | w | w
      · exact G c w h3
      · exact h4 w
      · exact l4 c w h2 h3
  · rw [if_neg c1]
    cases ho : (chl S n e).head? with
    | none =>
      rw [ho] at D
      exact fun c h1 h2 h3 => D c h1 h2 h3.1
    | some b =>
      rw [ho] at D
      obtain ⟨l1, l2, l3, l4⟩ := D
      refine ⟨l1, l2, ⟨l3, fun w => c1 ?_⟩, fun c h1 h2 h3 => l4 c h1 h2 h3.1⟩
      subst w
      have l5 : par S b = some e := l3
      rw [hpp] at l5
      cases l5
      exact ⟨GsO_u G (fun c h1 h2 => l4 c (Nat.zero_le _) h1 h2), hpp⟩
theorem glr_G {S : MM} {n p e pp : Nat} (h : TS S n) (hp : p < n) (hpp : par S p = some pp) : GsO (fun c => sib S e c ∧ c ≠ p) n (glr S n p e) := by
  have L := nx_L hp hpp
  have D := gl_G (S := S) n e
  unfold glr
  by_cases c1 : nxS S n p = none ∧ par S p = some e
  · rw [if_pos c1]
    rw [c1.1] at L
    have eq : pp = e := by
      have := c1.2
      rw [hpp] at this
      exact Option.some.inj this
    rw [eq] at L hpp
    have G := ah_G h hp hpp
    cases ho : ahS S p p with
    | none =>
      rw [ho] at G
      rintro c h2 ⟨h3, h4⟩
      rcases Nat.lt_trichotomy c p with w | w | w
      · exact G c w h3
      · exact h4 w
      · exact L c w h2 h3
    | some b =>
      rw [ho] at G
      obtain ⟨g1, g2, g3⟩ := G
      refine ⟨by omega, ⟨g2, by omega⟩, fun c h1 h2 h => ?_⟩
      obtain ⟨h3, h4⟩ := h
      rcases Nat.lt_trichotomy c p with w | w | w
      · exact g3 c h1 w h3
      · exact h4 w
      · exact L c w h2 h3
  · rw [if_neg c1]
    cases ho : (chl S n e).getLast? with
    | none =>
      rw [ho] at D
      exact fun c h2 h3 => D c h2 h3.1
    | some b =>
      rw [ho] at D
      obtain ⟨l2, l3, l4⟩ := D
      refine ⟨l2, ⟨l3, fun w => c1 ?_⟩, fun c h1 h2 h3 => l4 c h1 h2 h3.1⟩
      subst w
      have l5 : par S b = some e := l3
      rw [hpp] at l5
      cases l5
      exact ⟨LsO_u L (fun c h1 h2 h3 => l4 c h1 h2 h3), hpp⟩
theorem rm_par {S T : MM} {n p e : Nat} (H : RMV S T n p) (he : e < n) (hs : stay S p e = true) : par T (cn (stay S p) e) = (par S e).map (cn (stay S p)) := by
  have hr := (H.2.2 _ e (flt_at he hs)).2.1
  unfold par
  rw [hr]
  by_cases z : S 5 e = -1
  · rw [if_pos z, if_pos z, if_pos rfl]
    rfl
  · have hb : cn (stay S p) (tn (S 5 e)) < 2 ^ 31 := Nat.lt_of_le_of_lt (cn_le _ _) (tn_lt _)
    rw [if_neg z, if_neg z, if_neg (nI_ne1 hb), tn_nI hb]
    rfl
theorem rm_sib {S T : MM} {n p c q : Nat} (h : TS S n) (H : RMV S T n p) (hc : c < n) (hs : stay S p c = true) (hq : stay S p q = true) : sib T (cn (stay S p) q) (cn (stay S p) c) ↔ sib S q c := by
  unfold sib
  rw [rm_par H hc hs]
  constructor
  · intro w
    cases hp : par S c with
    | none =>
      rw [hp] at w
      cases w
    | some q' =>
      rw [hp] at w
      have w : some (cn (stay S p) q') = some (cn (stay S p) q) := w
      rw [cn_inj (st_up h hc hp hs) hq (Option.some.inj w)]
  · intro w
    rw [w]
    rfl
theorem rm_TS {S T : MM} {n p : Nat} (h : TS S n) (hp0 : 0 < p) (H : RMV S T n p) : TS T (cn (stay S p) n) := by
  have h24 := h.2.2.1
  have h1 := h.2.1
  have s0 : stay S p 0 = true := st_i.mpr (blo_0 h hp0)
  have hle := cn_le (stay S p) n
  have hl := cn_lt (P := stay S p) (n := n) (e := 0) (by omega) s0
  refine ⟨?_, by omega, by omega, ?_, fun j j0 hj => ?_⟩
  · rw [H.2.1]
    unfold kpl
    rw [cn_flt]
  · have := (H.2.2 _ 0 (flt_at (by omega) s0)).2.1
    rw [h.2.2.2.1, if_pos rfl] at this
    exact this
  · obtain ⟨c, c1, c2, c3⟩ := kp_at hj
    subst c3
    have c0 : 0 < c := Nat.pos_of_ne_zero fun w => by
      rw [w] at j0
      exact absurd j0 (Nat.lt_irrefl 0)
    obtain ⟨q, q1, q2, q3⟩ := par_s h c0 c1
    refine ⟨cn (stay S p) q, cn_lt q1 (st_up h c1 q3 c2), ?_⟩
    have := (H.2.2 _ c (flt_at c1 c2)).2.1
    rw [q2, if_neg (nI_ne1 (by omega)), tn_nI (by omega)] at this
    exact this
theorem rm_lk {S T : MM} {n p e : Nat} (h : TS S n) (hp : p < n) (hp0 : 0 < p) (H : RMV S T n p) (he : e < n) (hs : stay S p e = true) :
    ahS T (cn (stay S p) e) (cn (stay S p) e) = (ahr S n p e).map (cn (stay S p)) ∧ nxS T (cn (stay S p) n) (cn (stay S p) e) = (nxr S n p e).map (cn (stay S p)) ∧
    (chl T (cn (stay S p) n) (cn (stay S p) e)).head? = (hdr S n p e).map (cn (stay S p)) ∧ (chl T (cn (stay S p) n) (cn (stay S p) e)).getLast? = (glr S n p e).map (cn (stay S p)) := by
  obtain ⟨pp, _, _, hpp⟩ := par_s h hp0 hp
  have hT := rm_TS h hp0 H
  have hen : cn (stay S p) e < cn (stay S p) n := cn_lt he hs
  have e1 : cn (stay S p) (e + 1) = cn (stay S p) e + 1 := by rw [cn_s, if_pos hs]
  have hq : ∀ q, stay S p q = true → ∀ c, c < n → stay S p c = true → (sib T (cn (stay S p) q) (cn (stay S p) c) ↔ (sib S q c ∧ c ≠ p)) := fun q q1 c c1 c2 => ⟨fun w => ⟨(rm_sib h H c1 c2 q1).mp w, st_np c2⟩, fun w => (rm_sib h H c1 c2 q1).mpr w.1⟩
  have hv : ∀ q, stay S p q = true → ∀ c, c < n → (sib S q c ∧ c ≠ p) → stay S p c = true := fun q q1 c c1 w => st_ch h c1 w.1 q1 w.2
  have hpar := rm_par H he hs
  refine ⟨?_, ?_, ?_, ?_⟩
  · cases hpe : par S e with
    | none =>
      have e0 := par_n h he hpe
      subst e0
      have n1 : ¬ nxS S n p = some 0 := fun w => by
        have L := nx_L hp hpp
        rw [w] at L
        have := L.1
        omega
      unfold ahr
      rw [if_neg n1]
      rfl
    | some q =>
      rw [hpe] at hpar
      exact GsO_u (ah_G hT hen hpar) (GsO_m (n := n) (Nat.le_of_lt he) (hq q (st_up h he hpe hs)) (hv q (st_up h he hpe hs)) (ahr_G h hp hpp he hpe))
  · cases hpe : par S e with
    | none =>
      rw [hpe] at hpar
      have n1 : ¬ ahS S p p = some e := fun w => by
        have G := ah_G h hp hpp
        rw [w] at G
        have := G.2.1
        unfold sib at this
        rw [hpe] at this
        cases this
      unfold nxr
      rw [if_neg n1, nx_0 hpe, nx_0 hpar]
      rfl
    | some q =>
      rw [hpe] at hpar
      have := LsO_m (hq q (st_up h he hpe hs)) (hv q (st_up h he hpe hs)) (nxr_L h hp hpp he hpe)
      rw [e1] at this
      exact LsO_u (nx_L hen hpar) this
  · have := LsO_m (hq e hs) (hv e hs) (hdr_L (e := e) h hp hpp)
    exact LsO_u (hd_L _ _) this
  · exact GsO_u (gl_G _ _) (GsO_m (Nat.le_refl n) (hq e hs) (hv e hs) (glr_G (e := e) h hp hpp))
theorem TNR_rm {S T : MM} {n R p b : Nat} (hp0 : 0 < p) (H : RMV S T n p) (N : TNR S n R) (nu : NM S n b) : TNR T (kpl S n p).length R ∧ NM T (kpl S n p).length b := by
  obtain ⟨⟨a1, a2, a3, a4⟩, b', c', d, e⟩ := N
  obtain ⟨k, k1, k2, k3⟩ := nu
  have hlen : (kpl S n p).length = cn (stay S p) n := cn_flt n
  have gr : RU S T := fun i h1 h2 _ => H.1 i (by omega) h2 (by omega) (by omega)
  have at1 : ∀ i, i < (kpl S n p).length → ∃ e, (kpl S n p)[i]? = some e ∧ e < n ∧ cn (stay S p) e = i := fun i hi => by
    have h1 := List.getElem?_eq_getElem hi
    obtain ⟨y1, _, y3⟩ := cn_at (P := stay S p) (n := n) (i := i) h1
    exact ⟨_, h1, y1, y3⟩
  refine ⟨⟨⟨by rw [hlen]; exact rm_TS a1 hp0 H, RTo_r gr a2, TDo_r gr a3, fun i hi => ?_⟩, fun i j hi hj w => ?_, fun i hi => ?_, ?_, ?_⟩, k, k1, ?_, fun i hi => ?_⟩
  · obtain ⟨f, f1, f2, _⟩ := at1 i hi
    rw [(H.2.2 i f f1).2.2.2.2.1]
    exact a4 f f2
  · obtain ⟨f, f1, f2, f3⟩ := at1 i hi
    obtain ⟨g, g1, g2, g3⟩ := at1 j hj
    rw [(H.2.2 i f f1).1, (H.2.2 j g g1).1] at w
    rw [← f3, ← g3, b' f g f2 g2 w]
  · obtain ⟨f, f1, f2, _⟩ := at1 i hi
    rw [(H.2.2 i f f1).2.2.2.2.2]
    exact c' f f2
  · rw [H.1 1 (by decide) (by decide) (by decide) (by decide)]
    exact d
  · rw [H.1 19 (by decide) (by decide) (by decide) (by decide)]
    exact e
  · rw [H.1 2 (by decide) (by decide) (by decide) (by decide)]
    exact k2
  · obtain ⟨f, f1, f2, _⟩ := at1 i hi
    rw [(H.2.2 i f f1).1]
    exact k3 f f2
