/-! ===== the model's functions: findsValues, the rounds over the variables ===== -/
theorem bind_so {α : Type} {x : Option α} {y : α} (h : x.bind some = some y) : x = some y := by
  cases x with
  | none => cases h
  | some v => exact h
/-- what findsValues is told -/
def VH (S Y : MM) (n R e : Nat) (T : Nat → Option Nat) : Prop := TS S n ∧ e < n ∧ R ≤ 16 ∧ TDo S R ∧ (∀ p r, T p = some r → r < R ∧ S 20 (14 * r + p) ≠ 0) ∧
  (∀ v, v < 4 → (Y e (10 + v), Y e (24 + v)) = if rgA (ndS S T) v 4 v = true then ((-1 : Int32), (-1 : Int32)) else tkY S Y e (10 + v) (T (10 + v))) ∧ (∀ v, v < 4 → Y e (10 + v) = -1 → Y e (24 + v) = -1)
/-- one variable taken -/
theorem fvTk {S S1 Y : MM} {n R e m v : Nat} {T : Nat → Option Nat} (H : VH S Y n R e T) (hq : ∀ q, par S e = some q → ∀ p, p < 14 → S 23 (14 * q + p) = Y q p ∧ S 24 (14 * q + p) = Y q (14 + p)) (hm : m < 16) (hv : v < 4) (h1 : VI S Y e m S1)
    (hg : ∀ u, ndS S T v = some u → m.testBit u = true) (hr : ¬ rgA (ndS S T) v 4 v = true) :
    ∃ S2, m_takesValue S1 (nI e) (nI (10 + v)) (eo (T (10 + v))) = some S2 ∧ Wr S1 S2 (14 * e + (10 + v)) (Y e (10 + v), Y e (24 + v)) := by
  obtain ⟨h, he, hR, hD, ht, hY, hN⟩ := H
  have g := VI_TG h1
  have hY' := hY v hv
  rw [if_neg hr] at hY'
  obtain ⟨S2, s1, s2⟩ := takes_s (S := S1) (Y := Y) (p := 10 + v) (o := T (10 + v)) (TS_c g h) hR (TDo_c g hD) he (by omega) (fun r z => by
    rw [g 20 (by decide) (by decide)]
    exact ht (10 + v) r z) (fun q hpq => by
    rw [par_c g] at hpq
    have hqe := ((par_S h he).2 q hpq).1
    have := h1.2.1 (14 * q + (10 + v)) (fun u hu => by omega)
    rw [this.1, this.2]
    exact hq q hpq (10 + v) (by omega)) (fun r u z k3 k4 hu => by
    rw [g 20 (by decide) (by decide)] at k3
    rw [g 21 (by decide) (by decide)] at k4
    refine (h1.1 u hu (hg u ?_)).1
    unfold ndS
    rw [z]
    show (if S 20 (14 * r + (10 + v)) = 3 then _ else none) = some u
    rw [if_pos k3, k4, tn_nI (by omega)])
  rw [tkY_c g, ← hY'] at s2
  exact ⟨S2, s1, s2⟩
theorem nd_v {f : Nat → Option Nat} {m v : Nat} : stM f m v = m ||| 2 ^ v ∧ (¬ m.testBit v = true) ∧ (∀ u, f v = some u → m.testBit u = true) ∨ stM f m v = m ∧ (m.testBit v = true ∨ ∃ u, f v = some u ∧ ¬ m.testBit u = true) := by
  unfold stM
  by_cases a : m.testBit v = true
  · rw [if_pos a]
    exact Or.inr ⟨rfl, Or.inl a⟩
  · rw [if_neg a]
    cases f v with
    | none => exact Or.inl ⟨rfl, a, fun u z => nomatch z⟩
    | some u =>
      show (if m.testBit u = true then m ||| 2 ^ v else m) = _ ∧ _ ∨ (if m.testBit u = true then m ||| 2 ^ v else m) = _ ∧ _
      by_cases b : m.testBit u = true
      · rw [if_pos b]
        exact Or.inl ⟨rfl, a, fun w z => by cases z; exact b⟩
      · rw [if_neg b]
        exact Or.inr ⟨rfl, Or.inr ⟨u, rfl, b⟩⟩
/-- a round of the variables: found before, the rings found -/
def VJ (S Y : MM) (e m : Nat) (f : Nat → Option Nat) (S' : MM) : Prop := m < 16 ∧ (∀ v, v < 4 → rgA f v 4 v = true → m.testBit v = true) ∧ VI S Y e m S'
theorem fv165 {S Y : MM} {n R e m0 : Nat} {T : Nat → Option Nat} {S0 : MM} (H : VH S Y n R e T) (hq : ∀ q, par S e = some q → ∀ p, p < 14 → S 23 (14 * q + p) = Y q p ∧ S 24 (14 * q + p) = Y q (14 + p)) (hT : ∀ v, v < 4 → S 37 v = eo (T (10 + v)))
    (h0 : VJ S Y e m0 (ndS S T) S0) : ∃ S' : MM, VJ S Y e (r4 (stM (ndS S T)) m0) (ndS S T) S' ∧ ∀ K, m_findsValues_165 K (nI e) 1000 (nI m0) 0 S0 = K (nI (r4 (stM (ndS S T)) m0)) S' := by
  obtain ⟨h, he, hR, hD, ht, hY, hN⟩ := id H
  have h24 := h.2.2.1
  obtain ⟨s, ⟨m, m2, m3, m4⟩, e1⟩ := lp_0 (σ := Int32 × MM) (L := fun K fu k s => m_findsValues_165 (fun a S => K (a, S)) (nI e) fu s.1 (nI k) s.2) (n := 4)
    (Inv := fun k s => ∃ m, s.1 = nI m ∧ m = (List.range k).foldl (stM (ndS S T)) m0 ∧ VJ S Y e m (ndS S T) s.2)
    (fun K fu s _ => by
      show m_findsValues_165 (fun a S => K (a, S)) (nI e) (fu + 1) s.1 (nI 4) s.2 = K s
      rw [m_findsValues_165, if_pos (by decide)])
    (fun fu k s hk hi => by
      obtain ⟨x, S1⟩ := s
      obtain ⟨m, m2, m3, m4, m5, m6⟩ : ∃ m, x = nI m ∧ m = (List.range k).foldl (stM (ndS S T)) m0 ∧ VJ S Y e m (ndS S T) S1 := hi
      subst m2
      have g := VI_TG m6
      have T37 : ∀ v, v < 4 → S1 37 v = eo (T (10 + v)) := fun v hv => by rw [m6.2.2 37 (by decide) (by decide)]; exact hT v hv
      have eN : ndS S1 T = ndS S T := ndS_c g T
      obtain ⟨n1, n2⟩ := needs_s hR hk T37 (fun v r _ z => (ht _ r z).1) (TDo_c g hD)
      rw [eN] at n1 n2
      have hi : 14 * e + (10 + k) < 336 := by omega
      have eI : (14 : Int32) * nI e + 10 + nI k = nI (14 * e + (10 + k)) := by rw [nx14, np10, nI_add, Nat.add_assoc]
      have eR : (List.range (k + 1)).foldl (stM (ndS S T)) m0 = stM (ndS S T) m k := by
        rw [List.range_succ, List.foldl_append, ← m3]
        rfl
      -- what is done where one is taken
      have eT : ∀ (K : Int32 × MM → Option MM), (if ix (nI k) 4 then bd (m_takesValue S1 (nI e) (10 + nI k) (S1 37 (tn (nI k)))) fun S51 => (if ix (((14 : Int32) * nI e + 10) + nI k) 336 then bnd (if S51 23 (tn (((14 : Int32) * nI e + 10) + nI k)) = -1 then (-1 : Int32) else S51 24 (tn (((14 : Int32) * nI e + 10) + nI k))) fun p56 => bnd (u2 S51 24 (tn (((14 : Int32) * nI e + 10) + nI k)) p56) fun S57 => (bnd (nI m ||| ((1 : Int32) <<< (nI k &&& 31))) fun p58 => m_findsValues_165 (fun a S => K (a, S)) (nI e) fu p58 (nI k + 1) S57) else none) else none) =
          bd (m_takesValue S1 (nI e) (nI (10 + k)) (eo (T (10 + k)))) fun S51 => m_findsValues_165 (fun a S => K (a, S)) (nI e) fu (nI (m ||| 2 ^ k)) (nI (k + 1)) (u2 S51 24 (14 * e + (10 + k)) (if S51 23 (14 * e + (10 + k)) = -1 then -1 else S51 24 (14 * e + (10 + k)))) := fun K => by
        rw [if_pos (ix_nI hk (by omega)), tn_nI (by omega), T37 k hk, pn10, eI]
        simp only [tn_nI (show 14 * e + (10 + k) < 2 ^ 31 by omega)]
        congr 1
        funext S51
        rw [if_pos (ix_nI hi (by omega)), bnd_s, bnd_s, bnd_s, (fb2 m m4 k hk).1, nI_1]
      have e0 : ∀ K : Int32 × MM → Option MM, m_findsValues_165 (fun a S => K (a, S)) (nI e) (fu + 1) (nI m) (nI k) S1 = if (¬ m.testBit k = true) ∧ (∀ u, ndS S T k = some u → m.testBit u = true) then (bd (m_takesValue S1 (nI e) (nI (10 + k)) (eo (T (10 + k)))) fun S51 => m_findsValues_165 (fun a S => K (a, S)) (nI e) fu (nI (m ||| 2 ^ k)) (nI (k + 1)) (u2 S51 24 (14 * e + (10 + k)) (if S51 23 (14 * e + (10 + k)) = -1 then -1 else S51 24 (14 * e + (10 + k))))) else m_findsValues_165 (fun a S => K (a, S)) (nI e) fu (nI m) (nI (k + 1)) S1 := fun K => by
        rw [m_findsValues_165, if_neg (n4 (by omega)), n1, bd_s, fb1 m m4 k hk]
        by_cases a : m.testBit k = true
        · rw [if_pos a, if_neg (by decide), if_neg (fun z => z.1 a), nI_1]
        · rw [if_neg a, if_pos rfl]
          cases hf : ndS S T k with
          | none =>
            rw [show eo none = -1 from rfl, if_pos rfl]
            exact (eT K).trans (if_pos ⟨a, fun u z => nomatch z⟩).symm
          | some u =>
            have hu := n2 u hf
            rw [show eo (some u) = nI u from rfl, if_neg (nI_ne1 (by omega)), fb1 m m4 u hu]
            by_cases b : m.testBit u = true
            · rw [if_pos b, if_pos rfl]
              exact (eT K).trans (if_pos ⟨a, fun w z => by cases z; exact b⟩).symm
            · rw [if_neg b, if_neg (by decide), if_neg (fun z => b (z.2 u rfl)), nI_1]
      rcases nd_v (f := ndS S T) (m := m) (v := k) with ⟨a1, a2, a3⟩ | ⟨a1, a2⟩
      · obtain ⟨S2, s1, s2⟩ := fvTk H hq m4 hk m6 a3 (fun z => a2 (m5 k hk z))
        have hx : (if S2 23 (14 * e + (10 + k)) = -1 then (-1 : Int32) else S2 24 (14 * e + (10 + k))) = Y e (24 + k) := by
          rw [s2.1, s2.2.1, if_pos rfl, if_pos rfl]
          by_cases z : Y e (10 + k) = -1
          · rw [if_pos z, hN k hk z]
          · rw [if_neg z]
        have hS : u2 S2 24 (14 * e + (10 + k)) (if S2 23 (14 * e + (10 + k)) = -1 then (-1 : Int32) else S2 24 (14 * e + (10 + k))) = S2 := by
          rw [hx]
          funext a b
          by_cases z : a = 24 ∧ b = 14 * e + (10 + k)
          · rw [z.1, z.2, u2_self, s2.2.1, if_pos rfl]
          · rw [u2_ne z]
        refine ⟨(nI (m ||| 2 ^ k), S2), ⟨m ||| 2 ^ k, rfl, ?_, (fb2 m m4 k hk).2, fun v hv hr => ?_, VI_s m4 hk m6 s2⟩, fun K => ?_⟩
        · rw [eR, a1]
        · exact (fb3 m m4 k hk v hv).mpr (Or.inl (m5 v hv hr))
        · refine (e0 K).trans ?_
          rw [if_pos ⟨a2, a3⟩, s1, bd_s, hS]
      · refine ⟨(nI m, S1), ⟨m, rfl, ?_, m4, m5, m6⟩, fun K => (e0 K).trans (if_neg (fun z => ?_))⟩
        · rw [eR, a1]
        · rcases a2 with y | ⟨u, y1, y2⟩
          · exact z.1 y
          · exact y2 (z.2 u y1))
    (fu := 1000) (s := (nI m0, S0)) (by decide) ⟨m0, rfl, rfl, h0⟩
  obtain ⟨x, S'⟩ := s
  have m2' : x = nI (r4 (stM (ndS S T)) m0) := by rw [show x = nI m from m2, m3]; rfl
  rw [m3] at m4
  subst m2'
  refine ⟨S', m4, fun K => ?_⟩
  have := e1 (fun s => K s.1 s.2)
  rw [nI_0] at this
  exact this
theorem fv157 {S Y : MM} {n R e m0 : Nat} {T : Nat → Option Nat} {S0 : MM} (H : VH S Y n R e T) (hq : ∀ q, par S e = some q → ∀ p, p < 14 → S 23 (14 * q + p) = Y q p ∧ S 24 (14 * q + p) = Y q (14 + p)) (hT : ∀ v, v < 4 → S 37 v = eo (T (10 + v)))
    (h0 : VJ S Y e m0 (ndS S T) S0) (g : (Nat → Nat)) (hg : g = r4 (stM (ndS S T))) : ∃ S' : MM, VJ S Y e (g (g (g (g m0)))) (ndS S T) S' ∧ ∀ K, m_findsValues_157 K (nI e) 1000 (nI m0) 0 S0 = K S' := by
  have st : ∀ (fu k m : Nat) (S1 : MM), k < 4 → VJ S Y e m (ndS S T) S1 → ∃ S2, VJ S Y e (g m) (ndS S T) S2 ∧ ∀ K, m_findsValues_157 K (nI e) (fu + 1) (nI m) (nI k) S1 = m_findsValues_157 K (nI e) fu (nI (g m)) (nI (k + 1)) S2 := by
    intro fu k m S1 hk hJ
    obtain ⟨S2, j2, e2⟩ := fv165 H hq hT hJ
    subst hg
    refine ⟨S2, j2, fun K => ?_⟩
    rw [m_findsValues_157, if_neg (n4 (by omega)), e2, nI_1]
  obtain ⟨S1, j1, e1⟩ := st 999 0 m0 S0 (by decide) h0
  obtain ⟨S2, j2, e2⟩ := st 998 1 _ S1 (by decide) j1
  obtain ⟨S3, j3, e3⟩ := st 997 2 _ S2 (by decide) j2
  obtain ⟨S4, j4, e4⟩ := st 996 3 _ S3 (by decide) j3
  refine ⟨S4, j4, fun K => ?_⟩
  have := e1 K
  rw [nI_0] at this
  refine this.trans ((e2 K).trans ((e3 K).trans ((e4 K).trans ?_)))
  rw [m_findsValues_157, if_pos (by decide)]
/-- all values of an element -/
theorem findsValues_s {S Y : MM} {n R e : Nat} (h : TS S n) (hT : RTo S R) (hD : TDo S R) (he : e < n) (hL : LEV S Y n R e) (hq : ∀ q, par S e = some q → ∀ p, p < 14 → S 23 (14 * q + p) = Y q p ∧ S 24 (14 * q + p) = Y q (14 + p))
    (hw : ∀ q, nct S 26 (par S e) = some q → wdS S q = wdY Y q) (hN : ∀ v, v < 4 → Y e (10 + v) = -1 → Y e (24 + v) = -1) :
    ∃ S', m_findsValues S (nI e) = some S' ∧ (∀ p, p < 14 → S' 23 (14 * e + p) = Y e p ∧ S' 24 (14 * e + p) = Y e (14 + p)) ∧ (∀ j, (∀ p, p < 14 → j ≠ 14 * e + p) → S' 23 j = S 23 j ∧ S' 24 j = S 24 j) ∧ ∀ k, k ≠ 23 → k ≠ 24 → k ≠ 36 → k ≠ 37 → S' k = S k := by
  have h24 := h.2.2.1
  have hR := hT.1.2.1
  obtain ⟨xs, x1, x2, x3, y1, y2⟩ := hL
  have hth : ∀ r, thS S n r e ↔ thY S Y n r e := fun r => by
    unfold thS thY
    constructor
    · rintro ⟨a, b | ⟨q, b, c⟩⟩
      · exact ⟨a, Or.inl b⟩
      · exact ⟨a, Or.inr ⟨q, b, by rw [← hw q b]; exact c⟩⟩
    · rintro ⟨a, b | ⟨q, b, c⟩⟩
      · exact ⟨a, Or.inl b⟩
      · exact ⟨a, Or.inr ⟨q, b, by rw [hw q b]; exact c⟩⟩
  -- which rules are there
  obtain ⟨S1, ⟨i1, i2, i3⟩, e1⟩ := lp_0 (σ := MM) (L := fun K fu k s => m_findsValues_2 K (nI e) fu (nI k) s) (n := R)
    (Inv := fun k s => (∀ j, j < k → (s 36 j = 1 ↔ thS S n j e)) ∧ (∀ j, j < k → s 36 j = 0 ∨ s 36 j = 1) ∧ ∀ k, k ≠ 36 → s k = S k)
    (fun K fu s hi => by
      show m_findsValues_2 K (nI e) (fu + 1) (nI R) s = K s
      rw [m_findsValues_2, hi.2.2 10 (by decide), hT.1.1, if_pos (nI_le (Nat.le_refl _) (by omega))])
    (fun fu k s hk hi => by
      obtain ⟨i1, i2, i3⟩ := hi
      have g : TG S s := fun k _ b => i3 k (by omega)
      obtain ⟨v, v1, v2, v3⟩ := isThere_s (r := k) (TS_c g h) hR he hk
      rw [thS_c g (i3 28 (by decide)) (i3 25 (by decide))] at v2
      refine ⟨u2 s 36 k v, ⟨fun j hj => ?_, fun j hj => ?_, fun i hi => ?_⟩, fun K => ?_⟩
      · by_cases q : j = k
        · rw [q, u2_self]; exact v2
        · rw [u2_ne (fun z => q z.2)]; exact i1 j (by omega)
      · by_cases q : j = k
        · rw [q, u2_self]; exact v3
        · rw [u2_ne (fun z => q z.2)]; exact i2 j (by omega)
      · funext j
        rw [u2_row hi, i3 i hi]
      · show m_findsValues_2 K (nI e) (fu + 1) (nI k) s = m_findsValues_2 K (nI e) fu (nI (k + 1)) (u2 s 36 k v)
        rw [m_findsValues_2, i3 10 (by decide), hT.1.1, if_neg (nI_ge (by omega) (by omega)), v1, bd_s, if_pos (ix_nI (by omega) (by omega)), if_pos v3, tn_nI (by omega), bnd_s, nI_1])
    (fu := 1000) (s := S) (by omega) ⟨fun j z => absurd z (Nat.not_lt_zero j), fun j z => absurd z (Nat.not_lt_zero j), fun _ _ => rfl⟩
  rw [nI_0] at e1
  have g1 : TG S S1 := fun k _ b => i3 k (by omega)
  have hx1 : ∀ S2 : MM, S2 36 = S1 36 → ∀ r, r ∈ xs ↔ r < R ∧ S2 36 r ≠ 0 := fun S2 z r => by
    rw [x1 r, z]
    constructor
    · rintro ⟨a, b⟩
      exact ⟨a, by rw [(i1 r a).mpr ((hth r).mpr b)]; decide⟩
    · rintro ⟨a, b⟩
      exact ⟨a, (hth r).mp ((i1 r a).mp ((i2 r a).resolve_left b))⟩
  have tl : ∀ (S2 : MM) (p : Nat), TG S S2 → S2 36 = S1 36 → p < 14 → m_tells S2 (nI e) (nI p) = some (eo (cl S p xs (-1))) := fun S2 p g z hp => by
    have := tells_s (S := S2) (R := R) (xs := xs) (RTo_c g hT) hp (hx1 S2 z) (by rw [stB_c g]; exact x2) (by omega) (nI e)
    rw [cl_c g] at this
    exact this
  -- who tells the variables
  obtain ⟨S2, ⟨j1, j2⟩, e2⟩ := lp_0 (σ := MM) (L := fun K fu k s => m_findsValues_30 K (nI e) fu (nI k) s) (n := 4)
    (Inv := fun k s => (∀ v, v < k → s 37 v = eo (cl S (10 + v) xs (-1))) ∧ ∀ k, k ≠ 37 → s k = S1 k)
    (fun K fu s hi => by
      show m_findsValues_30 K (nI e) (fu + 1) (nI 4) s = K s
      rw [m_findsValues_30, if_pos (by decide)])
    (fun fu k s hk hi => by
      obtain ⟨j1, j2⟩ := hi
      have g : TG S s := TG_t g1 (fun k _ b => j2 k (by omega))
      refine ⟨u2 s 37 k (eo (cl S (10 + k) xs (-1))), ⟨fun v hv => ?_, fun i hi => ?_⟩, fun K => ?_⟩
      · by_cases q : v = k
        · rw [q, u2_self]
        · rw [u2_ne (fun z => q z.2)]; exact j1 v (by omega)
      · funext j
        rw [u2_row hi, j2 i hi]
      · show m_findsValues_30 K (nI e) (fu + 1) (nI k) s = m_findsValues_30 K (nI e) fu (nI (k + 1)) (u2 s 37 k (eo (cl S (10 + k) xs (-1))))
        rw [m_findsValues_30, if_neg (n4 (by omega)), pn10, tl s (10 + k) g (j2 36 (by decide)) (by omega), bd_s, if_pos (ix_nI hk (by omega)), tn_nI (by omega), bnd_s, nI_1])
    (fu := 1000) (s := S1) (by omega) ⟨fun j z => absurd z (Nat.not_lt_zero j), fun _ _ => rfl⟩
  rw [nI_0] at e2
  have g2 : TG S S2 := TG_t g1 (fun k _ b => j2 k (by omega))
  have h2o : ∀ k, k ≠ 36 → k ≠ 37 → S2 k = S k := fun k a b => (j2 k b).trans (i3 k a)
  obtain ⟨T, eT⟩ : ∃ T : Nat → Option Nat, T = fun p => cl S p xs (-1) := ⟨_, rfl⟩
  have hTm : ∀ p r, T p = some r → r < R ∧ S 20 (14 * r + p) ≠ 0 := fun p r z => by
    rw [eT] at z
    have := cl_mem z
    exact ⟨((x1 r).mp this.1).1, this.2⟩
  have eN2 : ndS S2 T = ndS S T := ndS_c g2 T
  have H2 : VH S2 Y n R e T := ⟨TS_c g2 h, he, hR, TDo_c g2 hD, fun p r z => by rw [g2 20 (by decide) (by decide)]; exact hTm p r z, fun v hv => by
    rw [eN2, tkY_c g2, eT]
    exact y2 v hv, hN⟩
  have hq2 : ∀ q, par S2 e = some q → ∀ p, p < 14 → S2 23 (14 * q + p) = Y q p ∧ S2 24 (14 * q + p) = Y q (14 + p) := fun q z p hp => by
    rw [par_c g2] at z
    rw [h2o 23 (by decide) (by decide), h2o 24 (by decide) (by decide)]
    exact hq q z p hp
  have hT2 : ∀ v, v < 4 → S2 37 v = eo (T (10 + v)) := fun v hv => by rw [eT]; exact j1 v hv
  obtain ⟨S3, k1, e3⟩ := fv60 H2.1 he hR hT2 (fun v r _ z => (hTm _ r z).1) H2.2.2.2.1 (fun v hv hr => by
    have := H2.2.2.2.2.2.1 v hv
    rw [if_pos hr] at this
    exact ⟨congrArg Prod.fst this, congrArg Prod.snd this⟩)
  have hbd : ∀ a u, a < 4 → ndS S2 T a = some u → u < 4 := fun a u ha => (needs_s hR ha hT2 (fun v r _ z => (hTm _ r z).1) H2.2.2.2.1).2 u
  have m15 := (dc_f hbd).2.1
  have k2 : VJ S2 Y e (r4 (stR (ndS S2 T)) 0) (ndS S2 T) S3 := by
    have hst : ∀ k, k ≤ 4 → (List.range k).foldl (stR (ndS S2 T)) 0 < 16 ∧ ∀ v, v < k → rgA (ndS S2 T) v 4 v = true → ((List.range k).foldl (stR (ndS S2 T)) 0).testBit v = true := by
      intro k
      induction k with
      | zero => exact fun _ => ⟨by show (0 : Nat) < 16; decide, fun v z => absurd z (Nat.not_lt_zero v)⟩
      | succ k ih =>
        intro hk
        obtain ⟨q1, q2⟩ := ih (by omega)
        rw [List.range_succ, List.foldl_append]
        show stR (ndS S2 T) ((List.range k).foldl (stR (ndS S2 T)) 0) k < 16 ∧ _
        generalize (List.range k).foldl (stR (ndS S2 T)) 0 = m at q1 q2 ⊢
        show stR (ndS S2 T) m k < 16 ∧ ∀ v, v < k + 1 → rgA (ndS S2 T) v 4 v = true → (stR (ndS S2 T) m k).testBit v = true
        unfold stR
        by_cases c : rgA (ndS S2 T) k 4 k = true
        · rw [if_pos c]
          refine ⟨(fb2 m q1 k (by omega)).2, fun v hv hr => (fb3 m q1 k (by omega) v (by omega)).mpr ?_⟩
          by_cases z : v = k
          · exact Or.inr z
          · exact Or.inl (q2 v (by omega) hr)
        · rw [if_neg c]
          refine ⟨q1, fun v hv hr => ?_⟩
          by_cases z : v = k
          · rw [z] at hr; exact absurd hr c
          · exact q2 v (by omega) hr
    exact ⟨(hst 4 (Nat.le_refl _)).1, (hst 4 (Nat.le_refl _)).2, k1⟩
  obtain ⟨S4, k3, e4⟩ := fv157 H2 hq2 hT2 k2 _ rfl
  rw [m15] at k3
  obtain ⟨-, -, n1, n2, n3⟩ := k3
  have g4 : TG S S4 := TG_t g2 (fun k _ b => n3 k (by omega) (by omega))
  have h4v : ∀ v, v < 4 → S4 23 (14 * e + (10 + v)) = Y e (10 + v) ∧ S4 24 (14 * e + (10 + v)) = Y e (24 + v) := fun v hv => n1 v hv (by
    have : ∀ v, v < 4 → (15 : Nat).testBit v = true := by decide
    exact this v hv)
  -- the others
  obtain ⟨S5, ⟨o1, o2, o3⟩, e5⟩ := lp_0 (σ := MM) (α := Option MM) (L := fun K fu k s => (m_findsValues_295 (nI e) fu (nI k) s).bind K) (n := 10)
    (Inv := fun k s => (∀ p, p < k → s 23 (14 * e + p) = Y e p ∧ s 24 (14 * e + p) = Y e (14 + p)) ∧ (∀ j, (∀ p, p < 10 → j ≠ 14 * e + p) → s 23 j = S4 23 j ∧ s 24 j = S4 24 j) ∧ ∀ k, k ≠ 23 → k ≠ 24 → s k = S4 k)
    (fun K fu s hi => by
      show (m_findsValues_295 (nI e) (fu + 1) (nI 10) s).bind K = K s
      rw [m_findsValues_295, if_pos (by decide)]
      rfl)
    (fun fu k s hk hi => by
      obtain ⟨o1, o2, o3⟩ := hi
      have g : TG S s := TG_t g4 (fun k _ b => o3 k (by omega) (by omega))
      have h36 : s 36 = S1 36 := (o3 36 (by decide) (by decide)).trans ((n3 36 (by decide) (by decide)).trans (j2 36 (by decide)))
      obtain ⟨s', t1, t2⟩ := takes_s (S := s) (Y := Y) (p := k) (o := cl S k xs (-1)) (TS_c g h) hR (TDo_c g hD) he (by omega) (fun r z => by
        rw [g 20 (by decide) (by decide)]
        have := cl_mem z
        exact ⟨((x1 r).mp this.1).1, this.2⟩) (fun q z => by
        rw [par_c g] at z
        have hqe := ((par_S h he).2 q z).1
        have a1 := o2 (14 * q + k) (fun p hp => by omega)
        have a2 := n2 (14 * q + k) (fun v hv => by omega)
        rw [a1.1, a1.2, a2.1, a2.2, h2o 23 (by decide) (by decide), h2o 24 (by decide) (by decide)]
        exact hq q z k (by omega)) (fun r u z _ _ hu => by
        have a1 := o2 (14 * e + (10 + u)) (fun p hp => by omega)
        rw [a1.1]
        exact (h4v u hu).1)
      rw [tkY_c g, ← y1 k hk] at t2
      refine ⟨s', ⟨fun p hp => ?_, fun j hj => ?_, fun i a b => (t2.2.2 i a b).trans (o3 i a b)⟩, fun K => ?_⟩
      · rw [t2.1, t2.2.1]
        by_cases q : p = k
        · rw [q, if_pos rfl, if_pos rfl]
          exact ⟨rfl, rfl⟩
        · rw [if_neg (by omega), if_neg (by omega)]
          exact o1 p (by omega)
      · rw [t2.1, t2.2.1, if_neg (hj k hk), if_neg (hj k hk)]
        exact o2 j hj
      · show (m_findsValues_295 (nI e) (fu + 1) (nI k) s).bind K = (m_findsValues_295 (nI e) fu (nI (k + 1)) s').bind K
        rw [m_findsValues_295, if_neg (n10 (by omega)), tl s k g h36 (by omega), bd_s, t1, bd_s, nI_1])
    (fu := 1000) (s := S4) (by omega) ⟨fun j z => absurd z (Nat.not_lt_zero j), fun _ _ => ⟨rfl, rfl⟩, fun _ _ _ => rfl⟩
  have e6 := e5 some
  rw [nI_0] at e6
  have e7 := bind_so e6
  refine ⟨S5, ?_, fun p hp => ?_, fun j hj => ?_, fun k a b c d => ?_⟩
  · unfold m_findsValues
    rw [e1, e2, e3, e4]
    exact e7
  · by_cases q : p < 10
    · exact o1 p q
    · have a1 := o2 (14 * e + p) (fun p' hp' => by omega)
      have a2 := h4v (p - 10) (by omega)
      rw [show 10 + (p - 10) = p by omega, show 24 + (p - 10) = 14 + p by omega] at a2
      rw [a1.1, a1.2]
      exact a2
  · have a1 := o2 j (fun p hp => hj p (by omega))
    have a2 := n2 j (fun v hv => hj (10 + v) (by omega))
    rw [a1.1, a1.2, a2.1, a2.2, h2o 23 (by decide) (by decide), h2o 24 (by decide) (by decide)]
    exact ⟨rfl, rfl⟩
  · exact (o3 k a b).trans ((n3 k a b).trans (h2o k c d))
