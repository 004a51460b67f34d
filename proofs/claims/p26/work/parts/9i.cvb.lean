/-! ===== the class: the values that it finds are as they have to be ===== -/
theorem tkY_z {S Z Z' : MM} {R e p : Nat} {o : Option Nat} (hD : TDo S R) (hp : p < 14) (ho : ∀ r, o = some r → r < R ∧ S 20 (14 * r + p) ≠ 0) (h1 : ∀ q, par S e = some q → Z' q p = Z q p ∧ Z' q (14 + p) = Z q (14 + p))
    (h2 : ∀ r u, o = some r → S 20 (14 * r + p) = 3 → S 21 (14 * r + p) = nI u → u < 4 → Z' e (10 + u) = Z e (10 + u)) : tkY S Z' e p o = tkY S Z e p o := by
  have hu : ∀ wd, unY S Z' e p wd = unY S Z e p wd := fun wd => by
    unfold unY
    cases hq : par S e with
    | none => rfl
    | some q =>
      obtain ⟨a, b⟩ := h1 q hq
      show (if _ then (Z' q p, Z' q (14 + p)) else _) = (if _ then (Z q p, Z q (14 + p)) else _)
      rw [a, b]
  unfold tkY
  cases o with
  | none => exact hu 2
  | some r =>
    obtain ⟨o1, o2⟩ := ho r rfl
    show (if S 20 (14 * r + p) = 1 then _ else _) = (if S 20 (14 * r + p) = 1 then _ else _)
    rw [hu, hu]
    rcases hD r p o1 hp with z | ⟨z, -⟩ | ⟨z, -⟩ | ⟨z, u, u1, u2, -⟩
    · exact absurd z o2
    · rw [if_pos z, if_pos z]
    · have n1 : ¬ S 20 (14 * r + p) = 1 := by rw [z]; decide
      rw [if_neg n1, if_neg n1, if_pos z, if_pos z]
    · rw [u2, tn_nI (by omega), h2 r u rfl z u2 u1]
theorem pz_at {Z : MM} {e p : Nat} {x : Int32 × Int32} (hp : p < 14) : pz Z e p x e p = x.1 ∧ pz Z e p x e (14 + p) = x.2 := by
  unfold pz
  rw [u2_ne (by omega), u2_self, u2_self]
  exact ⟨rfl, rfl⟩
theorem pz_ne {Z : MM} {e p q j : Nat} {x : Int32 × Int32} (h : q ≠ e ∨ (j ≠ p ∧ j ≠ 14 + p)) : pz Z e p x q j = Z q j := by
  unfold pz
  rw [u2_ne (by omega), u2_ne (by omega)]
/-- the value that a variable has to have -/
def vaY (S : MM) (o : Nat → Option Nat) (Y : MM) (e v : Nat) : Int32 × Int32 := if rgA (ndS S o) v 4 v = true then ((-1 : Int32), (-1 : Int32)) else tkY S Y e (10 + v) (o (10 + v))
def VCi (S : MM) (o : Nat → Option Nat) (e : Nat) (Z : MM) (m : Nat) (Y : MM) : Prop := m < 16 ∧ (∀ v, v < 4 → m.testBit v = true → (Y e (10 + v), Y e (24 + v)) = vaY S o Y e v) ∧ (∀ v u, v < 4 → m.testBit v = true → ¬ rgA (ndS S o) v 4 v = true → ndS S o v = some u → m.testBit u = true) ∧
  ∀ q j, (q ≠ e ∨ j < 10 ∨ (14 ≤ j ∧ j < 24) ∨ 28 ≤ j) → Y q j = Z q j
theorem VCi_s {S : MM} {n R : Nat} {o : Nat → Option Nat} {e m v : Nat} {Z Y : MM} (T : TS S n) (he : e < n) (hD : TDo S R) (ho : ∀ p r, o p = some r → r < R ∧ S 20 (14 * r + p) ≠ 0) (hv : v < 4) (hb : ∀ a u, a < 4 → ndS S o a = some u → u < 4) (H : VCi S o e Z m Y) : VCi S o e Z (stC (ndS S o) m v) (pz Y e (10 + v) (vaY S o Y e v)) := by
  obtain ⟨h1, h2, h3, h4⟩ := H
  -- what a variable has to have stays, where what it needs does
  have cg : ∀ u, u < 4 → (rgA (ndS S o) u 4 u = true ∨ ndS S o u ≠ some v) → vaY S o (pz Y e (10 + v) (vaY S o Y e v)) e u = vaY S o Y e u := fun u hu hc => by
    unfold vaY
    by_cases q : rgA (ndS S o) u 4 u = true
    · rw [if_pos q, if_pos q]
    · rw [if_neg q, if_neg q]
      refine tkY_z hD (by omega) (ho (10 + u)) (fun p hp => ?_) (fun r x hr k3 k4 hx => ?_)
      · have := ((par_S T he).2 p hp).1
        rw [pz_ne (Or.inl (by omega)), pz_ne (Or.inl (by omega))]
        exact ⟨rfl, rfl⟩
      · refine pz_ne (Or.inr ⟨fun z => ?_, by omega⟩)
        have hxv : x = v := by omega
        rcases hc with y | y
        · exact q y
        · refine y ?_
          unfold ndS
          rw [hr]
          show (if S 20 (14 * r + (10 + u)) = 3 then some (tn (S 21 (14 * r + (10 + u)))) else none) = some v
          rw [if_pos k3, k4, tn_nI (by omega), hxv]
  have fr : ∀ q j, (q ≠ e ∨ j < 10 ∨ (14 ≤ j ∧ j < 24) ∨ 28 ≤ j) → pz Y e (10 + v) (vaY S o Y e v) q j = Z q j := fun q j hj => by
    rw [pz_ne (by omega)]
    exact h4 q j hj
  have at_v : (pz Y e (10 + v) (vaY S o Y e v) e (10 + v), pz Y e (10 + v) (vaY S o Y e v) e (24 + v)) = vaY S o Y e v := by
    have := pz_at (Z := Y) (e := e) (p := 10 + v) (x := vaY S o Y e v) (by omega)
    rw [this.1, show 24 + v = 14 + (10 + v) by omega, this.2]
  have at_o : ∀ u, u < 4 → u ≠ v → (pz Y e (10 + v) (vaY S o Y e v) e (10 + u), pz Y e (10 + v) (vaY S o Y e v) e (24 + u)) = (Y e (10 + u), Y e (24 + u)) := fun u hu hne => by
    rw [pz_ne (Or.inr ⟨by omega, by omega⟩), pz_ne (Or.inr ⟨by omega, by omega⟩)]
  by_cases hin : m.testBit v = true
  · -- it is found already: nothing changes
    have hsame : pz Y e (10 + v) (vaY S o Y e v) = Y := by
      rw [← h2 v hv hin]
      funext q j
      by_cases z : q = e ∧ (j = 10 + v ∨ j = 24 + v)
      · obtain ⟨z1, z2 | z2⟩ := z
        · rw [z1, z2]
          exact (pz_at (by omega)).1
        · rw [z1, z2, show 24 + v = 14 + (10 + v) by omega]
          exact (pz_at (by omega)).2
      · exact pz_ne (by omega)
    rw [hsame]
    have hm : ∀ u, u < 4 → ((stC (ndS S o) m v).testBit u = true ↔ m.testBit u = true) := fun u hu => by
      have key : (m ||| 2 ^ v).testBit u = true ↔ m.testBit u = true := by
        rw [fb3 m h1 v hv u hu]
        exact ⟨fun z => z.elim id (fun y => by rw [y]; exact hin), Or.inl⟩
      unfold stC
      by_cases r : rgA (ndS S o) v 4 v = true
      · rw [if_pos r]; exact key
      · rw [if_neg r]
        cases ndS S o v with
        | none => exact key
        | some x =>
          show (if m.testBit x = true then m ||| 2 ^ v else m).testBit u = true ↔ _
          by_cases y : m.testBit x = true
          · rw [if_pos y]; exact key
          · rw [if_neg y]
    have h16 : stC (ndS S o) m v < 16 := by
      unfold stC
      by_cases r : rgA (ndS S o) v 4 v = true
      · rw [if_pos r]; exact (fb2 m h1 v hv).2
      · rw [if_neg r]
        cases ndS S o v with
        | none => exact (fb2 m h1 v hv).2
        | some x =>
          show (if m.testBit x = true then m ||| 2 ^ v else m) < 16
          by_cases y : m.testBit x = true
          · rw [if_pos y]; exact (fb2 m h1 v hv).2
          · rw [if_neg y]; exact h1
    exact ⟨h16, fun u hu hmu => h2 u hu ((hm u hu).mp hmu), fun u x hu hmu hr hx => (hm x (hb u x hu hx)).mpr (h3 u x hu ((hm u hu).mp hmu) hr hx), h4⟩
  · -- what is found stays so
    have old : ∀ u, u < 4 → m.testBit u = true → (pz Y e (10 + v) (vaY S o Y e v) e (10 + u), pz Y e (10 + v) (vaY S o Y e v) e (24 + u)) = vaY S o (pz Y e (10 + v) (vaY S o Y e v)) e u := fun u hu hmu => by
      have hne : u ≠ v := fun z => hin (by rw [← z]; exact hmu)
      rw [at_o u hu hne, h2 u hu hmu]
      refine (cg u hu ?_).symm
      by_cases r : rgA (ndS S o) u 4 u = true
      · exact Or.inl r
      · exact Or.inr (fun z => hin (h3 u v hu hmu r z))
    have joins : (rgA (ndS S o) v 4 v = true ∨ ∀ u, ndS S o v = some u → m.testBit u = true) → VCi S o e Z (m ||| 2 ^ v) (pz Y e (10 + v) (vaY S o Y e v)) := by
      intro hj
      have new : (pz Y e (10 + v) (vaY S o Y e v) e (10 + v), pz Y e (10 + v) (vaY S o Y e v) e (24 + v)) = vaY S o (pz Y e (10 + v) (vaY S o Y e v)) e v := by
        rw [at_v]
        refine (cg v hv ?_).symm
        rcases hj with r | r
        · exact Or.inl r
        · exact Or.inr (fun z => hin (r v z))
      refine ⟨(fb2 m h1 v hv).2, fun u hu hmu => ?_, fun u x hu hmu hr hx => ?_, fr⟩
      · rcases (fb3 m h1 v hv u hu).mp hmu with z | z
        · exact old u hu z
        · rw [z]; exact new
      · refine (fb3 m h1 v hv x (hb u x hu hx)).mpr (Or.inl ?_)
        rcases (fb3 m h1 v hv u hu).mp hmu with z | z
        · exact h3 u x hu z hr hx
        · rw [z] at hr hx
          rcases hj with y | y
          · exact absurd y hr
          · exact y x hx
    unfold stC
    by_cases r : rgA (ndS S o) v 4 v = true
    · rw [if_pos r]
      exact joins (Or.inl r)
    · rw [if_neg r]
      cases hnd : ndS S o v with
      | none => exact joins (Or.inr (fun u z => by rw [hnd] at z; cases z))
      | some x =>
        show VCi S o e Z (if m.testBit x = true then m ||| 2 ^ v else m) _
        by_cases y : m.testBit x = true
        · rw [if_pos y]
          exact joins (Or.inr (fun u z => by rw [hnd] at z; cases z; exact y))
        · rw [if_neg y]
          exact ⟨h1, old, h3, fr⟩
/-- all values of an element, by the declarations that tell -/
theorem fvZ_s {S : MM} {n R : Nat} {w : WZ} {o : Nat → Option Nat} {Tt : Nat → Option (Int32 × Int32 × Int32 × Int32)} {e : Nat} {Z : MM} (T : TS S n) (he : e < n) (hD : TDo S R) (ho : ∀ p r, o p = some r → r < R ∧ S 20 (14 * r + p) ≠ 0) (hb : ∀ a u, a < 4 → ndS S o a = some u → u < 4)
    (hn : ∀ a, a < 4 → ndZ Tt a = ndS S o a) (hf : ∀ (Y : MM) p, p < 14 → foZ w Y e p (Tt p) = tkY S Y e p (o p)) :
    (∀ q j, (q ≠ e ∨ 28 ≤ j) → fvZ w e Tt Z q j = Z q j) ∧ (∀ p, p < 10 → (fvZ w e Tt Z e p, fvZ w e Tt Z e (14 + p)) = tkY S (fvZ w e Tt Z) e p (o p)) ∧ ∀ v, v < 4 → (fvZ w e Tt Z e (10 + v), fvZ w e Tt Z e (24 + v)) = vaY S o (fvZ w e Tt Z) e v := by
  have sv : ∀ (Y : MM) v, v < 4 → vSt w e Tt Y v = pz Y e (10 + v) (vaY S o Y e v) := fun Y v hv => by
    unfold vSt vaY
    rw [rgA_c hn hb 4 v hv]
    by_cases r : rgA (ndS S o) v 4 v = true
    · rw [if_pos r, if_pos r]
    · rw [if_neg r, if_neg r, hf Y (10 + v) (by omega)]
  have rd : ∀ (Y : MM) m, VCi S o e Z m Y → VCi S o e Z (r4 (stC (ndS S o)) m) (vRd w e Tt Y) := fun Y m H => by
    have e1 : vRd w e Tt Y = vSt w e Tt (vSt w e Tt (vSt w e Tt (vSt w e Tt Y 0) 1) 2) 3 := rfl
    rw [e1, sv Y 0 (by decide), sv _ 1 (by decide), sv _ 2 (by decide), sv _ 3 (by decide)]
    exact VCi_s T he hD ho (by decide) hb (VCi_s T he hD ho (by decide) hb (VCi_s T he hD ho (by decide) hb (VCi_s T he hD ho (by decide) hb H)))
  have h0 : VCi S o e Z 0 Z := ⟨by decide, fun v hv z => absurd z (tb0 v hv), fun v u hv z => absurd z (tb0 v hv), fun _ _ _ => rfl⟩
  obtain ⟨Y4, eY⟩ : ∃ Y4, Y4 = (List.range 4).foldl (fun Z _ => vRd w e Tt Z) Z := ⟨_, rfl⟩
  have h4 : VCi S o e Z 15 Y4 := by
    have e1 : Y4 = vRd w e Tt (vRd w e Tt (vRd w e Tt (vRd w e Tt Z))) := eY
    rw [e1, ← (dc_f hb).2.2]
    exact rd _ _ (rd _ _ (rd _ _ (rd _ _ h0)))
  obtain ⟨-, v2, -, v4⟩ := h4
  have hl : ∀ k, k ≤ 10 → (∀ q j, (q ≠ e ∨ 28 ≤ j ∨ (10 ≤ j ∧ j < 14) ∨ (24 ≤ j ∧ j < 28)) → ((List.range k).foldl (fun Z p => pz Z e p (foZ w Z e p (Tt p))) Y4) q j = Y4 q j) ∧
      ∀ p, p < k → (((List.range k).foldl (fun Z p => pz Z e p (foZ w Z e p (Tt p))) Y4) e p, ((List.range k).foldl (fun Z p => pz Z e p (foZ w Z e p (Tt p))) Y4) e (14 + p)) = tkY S Y4 e p (o p) := by
    intro k
    induction k with
    | zero => exact fun _ => ⟨fun _ _ _ => rfl, fun p z => absurd z (Nat.not_lt_zero p)⟩
    | succ k ih =>
      intro hk
      obtain ⟨i1, i2⟩ := ih (by omega)
      rw [rdF]
      generalize (List.range k).foldl (fun Z p => pz Z e p (foZ w Z e p (Tt p))) Y4 = Y at i1 i2 ⊢
      have ek : foZ w Y e k (Tt k) = tkY S Y4 e k (o k) := by
        rw [hf Y k (by omega)]
        refine tkY_z hD (by omega) (ho k) (fun q hq => ?_) (fun r u _ _ _ hu => i1 e _ (by omega))
        have := ((par_S T he).2 q hq).1
        exact ⟨i1 q _ (Or.inl (by omega)), i1 q _ (Or.inl (by omega))⟩
      show (∀ q j, _ → pz Y e k (foZ w Y e k (Tt k)) q j = _) ∧ ∀ p, _ → (pz Y e k (foZ w Y e k (Tt k)) e p, pz Y e k (foZ w Y e k (Tt k)) e (14 + p)) = _
      rw [ek]
      refine ⟨fun q j hj => ?_, fun p hp => ?_⟩
      · rw [pz_ne (by omega)]
        exact i1 q j hj
      · by_cases z : p = k
        · rw [z]
          have := pz_at (Z := Y) (e := e) (p := k) (x := tkY S Y4 e k (o k)) (by omega)
          rw [this.1, this.2]
        · rw [pz_ne (by omega), pz_ne (by omega)]
          exact i2 p (by omega)
  obtain ⟨l1, l2⟩ := hl 10 (Nat.le_refl _)
  have eF : fvZ w e Tt Z = (List.range 10).foldl (fun Z p => pz Z e p (foZ w Z e p (Tt p))) Y4 := by
    rw [eY]
    rfl
  rw [← eF] at l1 l2
  generalize fvZ w e Tt Z = Y at l1 l2 ⊢
  have tk : ∀ p, p < 14 → tkY S Y e p (o p) = tkY S Y4 e p (o p) := fun p hp => tkY_z hD hp (ho p) (fun q hq => by
    have := ((par_S T he).2 q hq).1
    exact ⟨l1 q _ (Or.inl (by omega)), l1 q _ (Or.inl (by omega))⟩) (fun r u _ _ _ hu => l1 e _ (by omega))
  refine ⟨fun q j hj => (l1 q j (by omega)).trans (v4 q j (by omega)), fun p hp => by rw [tk p (by omega)]; exact l2 p hp, fun v hv => ?_⟩
  rw [l1 e (10 + v) (by omega), l1 e (24 + v) (by omega), v2 v hv (by
    have : ∀ v, v < 4 → (15 : Nat).testBit v = true := by decide
    exact this v hv)]
  unfold vaY
  rw [tk (10 + v) (by omega)]
theorem val_s {S : MM} {n R : Nat} {w : WZ} {h : Hp} {U up : Nat → List Nat} {Ds : Nat → Nat} {ss : List Nat} {pts : Nat → List Nat} {ra : Nat → Nat} {pa : Nat → Nat → Nat} (T : TS S n) (hT : RTo S R) (hD : TDo S R) (E : ER S n w h U up) (Q : RR S R h Ds ss pts ra pa) {e : Nat} (he : e < n) {Z : MM} (hz : ∀ q, nct S 26 (par S e) = some q → Z q 29 = 0 → Z q 32 = 0) :
    (∀ q j, (q ≠ e ∨ 28 ≤ j) → valZ w h Ds ss pts U up e Z q j = Z q j) ∧ LEV S (valZ w h Ds ss pts U up e Z) n R e := by
  obtain ⟨⟨xs0, x1, x2, x3, x4⟩, Q2⟩ := id Q
  obtain ⟨xs, exs⟩ : ∃ xs, xs = xs0.filter (fun r => flZ w h pts U up e Z (ra r)) := ⟨_, rfl⟩
  have hup : up e = (ach S 25 e).tail := (E.2.2 e he).2.2.2.2.2.2.2.2.2.2.2
  have hmem : ∀ r, r ∈ xs ↔ r < R ∧ thY S Z n r e := fun r => by
    rw [exs, List.mem_filter, x2 r, flZ_iff]
    constructor
    · rintro ⟨a, b, c⟩
      obtain ⟨q1, q2, -⟩ := Q2 r a
      rw [q1, hup, least_c T (fun e he => (E.2.2 e he).2.2.2.2.2.1) he q2 hz] at b
      exact ⟨a, (SL_fit T hT E Q he a).mp c, b⟩
    · rintro ⟨a, c, b⟩
      obtain ⟨q1, q2, -⟩ := Q2 r a
      refine ⟨a, ?_, (SL_fit T hT E Q he a).mpr c⟩
      rw [q1, hup, least_c T (fun e he => (E.2.2 e he).2.2.2.2.2.1) he q2 hz]
      exact b
  have hss : ss.filter (flZ w h pts U up e Z) = xs.map ra := by
    rw [x1, exs, List.filter_map]
    rfl
  have hT2 : ∀ p, p < 14 → TZ w h Ds ss pts U up e Z p = tellT h Ds ((cl S p xs (-1)).map ra) p := fun p hp => by
    unfold TZ ldF
    rw [hss, (ld_cl hD Q hp xs (-1) (fun r hr => ((hmem r).mp hr).1)).1]
  have ho : ∀ p r, cl S p xs (-1) = some r → r < R ∧ S 20 (14 * r + p) ≠ 0 := fun p r z => by
    have := cl_mem z
    exact ⟨((hmem r).mp this.1).1, this.2⟩
  have hfo : ∀ (Y : MM) p, p < 14 → foZ w Y e p (tellT h Ds ((cl S p xs (-1)).map ra) p) = tkY S Y e p (cl S p xs (-1)) ∧ ∀ v, v < 4 → p = 10 + v → ndZ (fun _ => tellT h Ds ((cl S p xs (-1)).map ra) p) v = ndS S (fun _ => cl S p xs (-1)) v := fun Y p hp =>
    fo_tk hD Q hp (E.2.2 e he).1 (fun r z => ⟨(ho p r z).1, (ho p r z).2, clO z⟩)
  have hb : ∀ a u, a < 4 → ndS S (fun p => cl S p xs (-1)) a = some u → u < 4 := fun a u ha hu => by
    unfold ndS at hu
    cases hc : cl S (10 + a) xs (-1) with
    | none =>
      rw [show (fun p => cl S p xs (-1)) (10 + a) = cl S (10 + a) xs (-1) from rfl, hc] at hu
      cases hu
    | some r =>
      rw [show (fun p => cl S p xs (-1)) (10 + a) = cl S (10 + a) xs (-1) from rfl, hc] at hu
      have hu' : (if S 20 (14 * r + (10 + a)) = 3 then some (tn (S 21 (14 * r + (10 + a)))) else none) = some u := hu
      obtain ⟨o1, o2⟩ := ho (10 + a) r hc
      by_cases q : S 20 (14 * r + (10 + a)) = 3
      · rw [if_pos q] at hu'
        rcases hD r (10 + a) o1 (by omega) with z | ⟨z, -⟩ | ⟨z, -⟩ | ⟨-, x, x1, x2, -⟩
        · exact absurd z o2
        · rw [q] at z; exact absurd z (by decide)
        · rw [q] at z; exact absurd z (by decide)
        · rw [x2, tn_nI (by omega)] at hu'
          cases hu'
          exact x1
      · rw [if_neg q] at hu'
        cases hu'
  have F := fvZ_s (w := w) (o := fun p => cl S p xs (-1)) (Tt := TZ w h Ds ss pts U up e Z) (Z := Z) T he hD ho hb (fun a ha => by
    have := (hfo Z (10 + a) (by omega)).2 a ha rfl
    unfold ndZ at this ⊢
    rw [hT2 (10 + a) (by omega)]
    exact this) (fun Y p hp => by
    rw [hT2 p hp]
    exact (hfo Y p hp).1)
  obtain ⟨F1, F2, F3⟩ := F
  have eV : valZ w h Ds ss pts U up e Z = fvZ w e (TZ w h Ds ss pts U up e Z) Z := rfl
  rw [← eV] at F1 F2 F3
  refine ⟨F1, xs, fun r => ?_, ?_, ?_, F2, F3⟩
  · rw [hmem r]
    have : thY S (valZ w h Ds ss pts U up e Z) n r e ↔ thY S Z n r e := by
      have hwd : ∀ q, nct S 26 (par S e) = some q → wdY (valZ w h Ds ss pts U up e Z) q = wdY Z q := fun q hq => by
        unfold wdY
        rw [F1 q 29 (Or.inr (by decide)), F1 q 32 (Or.inr (by decide))]
      unfold thY
      constructor
      · rintro ⟨a, b | ⟨q, b, c⟩⟩
        · exact ⟨a, Or.inl b⟩
        · exact ⟨a, Or.inr ⟨q, b, by rw [← hwd q b]; exact c⟩⟩
      · rintro ⟨a, b | ⟨q, b, c⟩⟩
        · exact ⟨a, Or.inl b⟩
        · exact ⟨a, Or.inr ⟨q, b, by rw [hwd q b]; exact c⟩⟩
    rw [this]
  · rw [exs]
    exact List.Pairwise.sublist List.filter_sublist x3
  · have := List.length_filter_le (fun r => flZ w h pts U up e Z (ra r)) xs0
    rw [exs]
    omega
