/-! ===== the class: the values that it finds, over what is told ===== -/
/-- a declaration of the class, and what the model has of it -/
def DR (S : MM) (h : Hp) (i : Nat) (o : Option Nat) : Prop := match o with
  | none => S 20 i = 0
  | some d => (S 20 i = 1 ∧ hI h fD_kind d = 4 ∧ hI h fD_number d = S 21 i) ∨ (S 20 i = 2 ∧ hI h fD_kind d = S 21 i) ∨ (S 20 i = 3 ∧ hI h fD_kind d = 5 ∧ hI h fD_variable d = S 21 i ∧ hI h fD_number d = S 22 i)
/-- the rules of the class, at ra, their parts at pa -/
def RR (S : MM) (R : Nat) (h : Hp) (Ds : Nat → Nat) (ss : List Nat) (pts : Nat → List Nat) (ra : Nat → Nat) (pa : Nat → Nat → Nat) : Prop :=
  (∃ xs : List Nat, ss = xs.map ra ∧ (∀ r, r ∈ xs ↔ r < R) ∧ xs.Pairwise (fun a b => stB S a b = true) ∧ xs.length ≤ 16) ∧
  ∀ r, r < R → hI h fU_least (ra r) = S 19 r ∧ (S 19 r = -1 ∨ 0 ≤ S 19 r) ∧ hI h fU_group (ra r) = gS S r ∧ hI h fU_number (ra r) = nI r ∧ pts (ra r) = (List.range (tn (S 11 r))).map (pa r) ∧
    (∀ k, k < tn (S 11 r) → hI h fP_tag (pa r k) = S 13 (3 * r + k) ∧ hI h fP_has (pa r k) = S 14 (3 * r + k) ∧ hI h fP_lacks (pa r k) = S 15 (3 * r + k) ∧ (0 < k → hI h fP_way (pa r k) = S 12 (3 * r + k))) ∧ ∀ p, p < 14 → DR S h (14 * r + p) (hQ h (Ds (ra r)) p)
/-- the elements of the class -/
def ER (S : MM) (n : Nat) (w : WZ) (h : Hp) (U up : Nat → List Nat) : Prop :=
  wn w = n ∧ inj n (wE w) ∧ ∀ e, e < n → wl w 197 e = par S e ∧ wl w 198 e = ahS S e e ∧ wi w 193 e = S 6 e ∧ wi w 194 e = S 7 e ∧ wi w 195 e = S 8 e ∧ wi w 196 e = S 9 e ∧
    hR h fE_parent (wE w e) = (par S e).map (wE w) ∧ hR h fE_ahead (wE w e) = (ahS S e e).map (wE w) ∧ hI h fE_tag (wE w e) = S 6 e ∧ hI h fE_classes (wE w e) = S 7 e ∧ U (wE w e) = (up e).map (wE w) ∧ up e = (ach S 25 e).tail
theorem ach_t {S : MM} {n : Nat} (h : TS S n) : ∀ (e : Nat), e < n → ∀ f, (∀ x, x ∈ ach S f e → x ≤ e) ∧ ∀ x, x ∈ (ach S f e).tail → x < e := by
  intro e
  induction e using Nat.strongRecOn with
  | ind e ih =>
    intro he f
    cases f with
    | zero => exact ⟨fun x hx => (by cases hx), fun x hx => (by cases hx)⟩
    | succ f =>
      have : ∀ x, x ∈ (ach S (f + 1) e).tail → x < e := by
        intro x hx
        unfold ach at hx
        cases hq : par S e with
        | none => rw [hq] at hx; cases hx
        | some q =>
          rw [hq] at hx
          obtain ⟨q1, q2⟩ := (par_S h he).2 q hq
          have := (ih q q1 q2 f).1 x hx
          omega
      refine ⟨fun x hx => ?_, this⟩
      unfold ach at hx
      rcases List.mem_cons.mp hx with z | z
      · omega
      · have := this x (by unfold ach; exact z)
        omega
theorem up_m {S : MM} {n e f : Nat} (h : TS S n) (he : e < n) : f ∈ (ach S 25 e).tail ↔ e ≠ f ∧ f ∈ ach S 25 e := by
  constructor
  · intro hf
    have := (ach_t h e he 25).2 f hf
    exact ⟨by omega, List.mem_of_mem_tail hf⟩
  · rintro ⟨a, b⟩
    unfold ach at b ⊢
    rcases List.mem_cons.mp b with z | z
    · exact absurd z.symm a
    · exact z
/-- one step of a selector -/
theorem way_c {S : MM} {n : Nat} {w : WZ} {h : Hp} {U up : Nat → List Nat} (T : TS S n) (E : ER S n w h U up) {e : Nat} (he : e < n) (wy : Int32) (A : Nat → Prop) :
    (if wy = 1 then ∃ a, a ∈ U (wE w e) ∧ A a else ∃ a, (if wy = 0 then hR h fE_parent (wE w e) else hR h fE_ahead (wE w e)) = some a ∧ A a) ↔ ∃ f, f < n ∧ ldS S wy e f ∧ A (wE w f) := by
  obtain ⟨-, -, E3⟩ := E
  obtain ⟨-, -, -, -, -, -, e1, e2, -, -, e3, e4⟩ := E3 e he
  unfold ldS
  by_cases w1 : wy = 1
  · have w0 : ¬ wy = 0 := by rw [w1]; decide
    rw [if_pos w1, e3, e4]
    constructor
    · rintro ⟨a, a1, a2⟩
      obtain ⟨f, f1, f2⟩ := List.mem_map.mp a1
      have := (ach_t T e he 25).2 f f1
      refine ⟨f, by omega, ?_, by rw [f2]; exact a2⟩
      rw [if_neg w0, if_pos w1]
      exact (up_m T he).mp f1
    · rintro ⟨f, f1, f2, f3⟩
      rw [if_neg w0, if_pos w1] at f2
      exact ⟨wE w f, List.mem_map.mpr ⟨f, (up_m T he).mpr f2, rfl⟩, f3⟩
  · rw [if_neg w1]
    by_cases w0 : wy = 0
    · simp only [if_pos w0, e1]
      constructor
      · rintro ⟨a, a1, a2⟩
        cases hp : par S e with
        | none => rw [hp] at a1; cases a1
        | some q =>
          rw [hp] at a1
          have : wE w q = a := Option.some.inj a1
          exact ⟨q, ((par_S T he).2 q hp).2, rfl, by rw [this]; exact a2⟩
      · rintro ⟨f, f1, f2, f3⟩
        exact ⟨wE w f, by rw [f2]; rfl, f3⟩
    · simp only [if_neg w0, if_neg w1, e2]
      constructor
      · rintro ⟨a, a1, a2⟩
        cases hp : ahS S e e with
        | none => rw [hp] at a1; cases a1
        | some q =>
          rw [hp] at a1
          have : wE w q = a := Option.some.inj a1
          have := ahS_lt hp
          exact ⟨q, by omega, rfl, by rw [show wE w q = a from Option.some.inj a1]; exact a2⟩
      · rintro ⟨f, f1, f2, f3⟩
        exact ⟨wE w f, by rw [f2]; rfl, f3⟩
theorem SL_fit {S : MM} {n R : Nat} {w : WZ} {h : Hp} {U up : Nat → List Nat} {Ds : Nat → Nat} {ss : List Nat} {pts : Nat → List Nat} {ra : Nat → Nat} {pa : Nat → Nat → Nat} (T : TS S n) (hT : RTo S R) (E : ER S n w h U up) (Q : RR S R h Ds ss pts ra pa) {e r : Nat} (he : e < n) (hr : r < R) :
    SL h U (pts (ra r)) (wE w e) ↔ fitS S n r e := by
  obtain ⟨c, c1, c2, c3, -⟩ := hT.1.2.2 r hr
  have h16 := hT.1.2.1
  have htn : tn (S 11 r) = c := by rw [c1, tn_nI (by omega)]
  obtain ⟨-, -, -, -, q5, q6, -⟩ := Q.2 r hr
  rw [htn] at q5 q6
  have lk : ∀ k, k < c → ∀ f, f < n → (lik h (pa r k) (wE w f) ↔ pl S (3 * r + k) f) := fun k hk f hf => by
    obtain ⟨p1, p2, p3, -⟩ := q6 k hk
    obtain ⟨-, -, -, -, -, -, -, -, t1, t2, -⟩ := E.2.2 f hf
    unfold lik pl
    rw [p1, p2, p3, t1, t2]
  have e1 : S 11 r = 1 ↔ c = 1 := by rw [c1]; exact nI_eq (b := 1) (by omega) (by decide)
  have e2 : S 11 r = 2 ↔ c = 2 := by rw [c1]; exact nI_eq (b := 2) (by omega) (by decide)
  unfold fitS
  rw [q5, e1, e2]
  have hc : c = 1 ∨ c = 2 ∨ c = 3 := by omega
  rcases hc with rfl | rfl | rfl
  · show lik h (pa r 0) (wE w e) ∧ True ↔ _
    rw [lk 0 (by decide) e he]
    exact ⟨fun z => ⟨z.1, Or.inl rfl⟩, fun z => ⟨z.1, trivial⟩⟩
  · show lik h (pa r 0) (wE w e) ∧ RS h U [pa r 1] (wE w e) ↔ _
    rw [lk 0 (by decide) e he, RS_c, way_c T E he]
    rw [(q6 1 (by decide)).2.2.2 (by decide)]
    constructor
    · rintro ⟨a, f, f1, f2, f3, -⟩
      exact ⟨a, Or.inr ⟨f, f1, f2, (lk 1 (by decide) f f1).mp f3, Or.inl rfl⟩⟩
    · rintro ⟨a, z | ⟨f, f1, f2, f3, -⟩⟩
      · exact absurd z (by decide)
      · exact ⟨a, f, f1, f2, (lk 1 (by decide) f f1).mpr f3, trivial⟩
  · show lik h (pa r 0) (wE w e) ∧ RS h U [pa r 1, pa r 2] (wE w e) ↔ _
    rw [lk 0 (by decide) e he, RS_c, way_c T E he]
    rw [(q6 1 (by decide)).2.2.2 (by decide)]
    have hi : ∀ f, f < n → (RS h U [pa r 2] (wE w f) ↔ ∃ g, g < n ∧ ldS S (S 12 (3 * r + 2)) f g ∧ pl S (3 * r + 2) g) := fun f hf => by
      rw [RS_c, way_c T E hf, (q6 2 (by decide)).2.2.2 (by decide)]
      constructor
      · rintro ⟨g, g1, g2, g3, -⟩
        exact ⟨g, g1, g2, (lk 2 (by decide) g g1).mp g3⟩
      · rintro ⟨g, g1, g2, g3⟩
        exact ⟨g, g1, g2, (lk 2 (by decide) g g1).mpr g3, trivial⟩
    constructor
    · rintro ⟨a, f, f1, f2, f3, f4⟩
      exact ⟨a, Or.inr ⟨f, f1, f2, (lk 1 (by decide) f f1).mp f3, Or.inr ((hi f f1).mp f4)⟩⟩
    · rintro ⟨a, z | ⟨f, f1, f2, f3, z | f4⟩⟩
      · exact absurd z (by decide)
      · exact absurd z (by decide)
      · exact ⟨a, f, f1, f2, (lk 1 (by decide) f f1).mpr f3, (hi f f1).mpr f4⟩
/-- the width of the nearest container -/
theorem wa_nct {S : MM} {n : Nat} {w : WZ} {Z : MM} (T : TS S n) (hw : ∀ e, e < n → wi w 196 e = S 9 e) : ∀ (q : Nat), q < n → ∀ f g, q < f → q + 1 < g → waZ w Z (ach S f q) = match nct S g (some q) with | none => -1 | some c => Z c 32 := by
  intro q
  induction q using Nat.strongRecOn with
  | ind q ih =>
    intro hq f g hf hg
    obtain ⟨f, rfl⟩ : ∃ z, f = z + 1 := ⟨f - 1, by omega⟩
    obtain ⟨g, rfl⟩ : ∃ z, g = z + 1 := ⟨g - 1, by omega⟩
    show waZ w Z (q :: _) = match (if S 9 q = 0 then nct S g (par S q) else some q) with | none => -1 | some c => Z c 32
    rw [waZ, hw q hq]
    by_cases z : S 9 q = 0
    · rw [if_pos z, if_pos z]
      cases hp : par S q with
      | none =>
        obtain ⟨g, rfl⟩ : ∃ z, g = z + 1 := ⟨g - 1, by omega⟩
        rfl
      | some p =>
        obtain ⟨p1, p2⟩ := (par_S T hq).2 p hp
        exact ih p p1 p2 f g (by omega) (by omega)
    · rw [if_neg z, if_neg z]
theorem least_c {S : MM} {n : Nat} {w : WZ} {Z : MM} (T : TS S n) (hw : ∀ e, e < n → wi w 196 e = S 9 e) {e : Nat} (he : e < n) {l : Int32} (hl : l = -1 ∨ 0 ≤ l) (hz : ∀ q, nct S 26 (par S e) = some q → Z q 29 = 0 → Z q 32 = 0) :
    (l = -1 ∨ l ≤ waZ w Z (ach S 25 e).tail) ↔ (l = -1 ∨ ∃ q, nct S 26 (par S e) = some q ∧ l ≤ wdY Z q) := by
  have h24 := T.2.2.1
  have hlt : 0 ≤ l → ¬ l ≤ -1 := fun a b => by
    rw [i_le] at a b
    have : (0 : Int32).toInt = 0 := rfl
    have : (-1 : Int32).toInt = -1 := rfl
    omega
  have key : (0 ≤ l) → (l ≤ waZ w Z (ach S 25 e).tail ↔ ∃ q, nct S 26 (par S e) = some q ∧ l ≤ wdY Z q) := fun hl0 => by
    unfold ach
    cases hp : par S e with
    | none =>
      show l ≤ -1 ↔ _
      constructor
      · exact fun z => absurd z (hlt hl0)
      · rintro ⟨q, z, -⟩
        cases z
    | some p =>
      obtain ⟨p1, p2⟩ := (par_S T he).2 p hp
      show l ≤ waZ w Z (ach S 24 p) ↔ _
      rw [wa_nct T hw p p2 24 26 (by omega) (by omega)]
      cases hc : nct S 26 (some p) with
      | none =>
        show l ≤ -1 ↔ _
        constructor
        · exact fun z => absurd z (hlt hl0)
        · rintro ⟨q, z, -⟩
          cases z
      | some c =>
        show l ≤ Z c 32 ↔ _
        obtain ⟨a, a1, a2⟩ := nct_a T 26 (some p) c hc
        cases a1
        have hwd : wdY Z c = Z c 32 := by
          unfold wdY
          by_cases y : Z c 29 = 0
          · rw [if_pos y, hz c (by rw [hp]; exact hc) y]
          · rw [if_neg y]
        constructor
        · exact fun z => ⟨c, rfl, by rw [hwd]; exact z⟩
        · rintro ⟨q, z, y⟩
          cases z
          rw [hwd] at y
          exact y
  rcases hl with z | z
  · exact ⟨fun _ => Or.inl z, fun _ => Or.inl z⟩
  · rw [key z]
/-! which rule decides -/
theorem DR_none {S : MM} {h : Hp} {i : Nat} {o : Option Nat} (H : DR S h i o) : o = none ↔ S 20 i = 0 := by
  cases o with
  | none => exact ⟨fun _ => H, fun _ => rfl⟩
  | some d =>
    refine ⟨fun z => (by cases z), fun z => ?_⟩
    rcases H with ⟨a, -⟩ | ⟨a, -⟩ | ⟨a, -⟩ <;> (rw [z] at a; exact absurd a (by decide))
theorem ld_cl {S : MM} {R : Nat} {h : Hp} {Ds : Nat → Nat} {ss : List Nat} {pts : Nat → List Nat} {ra : Nat → Nat} {pa : Nat → Nat → Nat} (hD : TDo S R) (Q : RR S R h Ds ss pts ra pa) {p : Nat} (hp : p < 14) : ∀ (xs : List Nat) (g : Int32), (∀ r, r ∈ xs → r < R) →
    (((xs.map ra).foldl (fun s r => ldA h r (Ds r) p s.1 s.2) (none, g)).1 = (cl S p xs g).map ra ∧ ∀ b, ((xs.map ra).foldl (fun s r => ldA h r (Ds r) p s.1 s.2) (some b, g)).1 = some b)
  | [], g, _ => ⟨rfl, fun _ => rfl⟩
  | r :: rs, g, hx => by
    have hr := hx r List.mem_cons_self
    obtain ⟨i1, i2⟩ := ld_cl hD Q hp rs g (fun q hq => hx q (List.mem_cons_of_mem _ hq))
    obtain ⟨-, -, q3, -, -, -, q7⟩ := Q.2 r hr
    have hdr := q7 p hp
    rw [List.map_cons, List.foldl_cons]
    refine ⟨?_, fun b => ?_⟩
    · show (List.foldl _ (ldA h (ra r) (Ds (ra r)) p none g) (rs.map ra)).1 = _
      rw [cl]
      unfold ldA
      cases hd : hQ h (Ds (ra r)) p with
      | none =>
        have := (DR_none hdr).mp hd
        rw [if_pos (Or.inl this)]
        exact i1
      | some d =>
        rw [hd] at hdr
        have hn : ¬ S 20 (14 * r + p) = 0 := fun z => by
          have := (DR_none hdr).mpr z
          cases this
        show (List.foldl _ (if hI h fU_group (ra r) = g then (none, g) else if hI h fD_kind d = 3 then (none, hI h fU_group (ra r)) else (some (ra r), g)) (rs.map ra)).1 = _
        rw [q3]
        by_cases hg : gS S r = g
        · rw [if_pos hg, if_pos (Or.inr hg)]
          exact i1
        · rw [if_neg hg, if_neg (show ¬ (S 20 (14 * r + p) = 0 ∨ gS S r = g) from fun z => z.elim hn hg)]
          have hk : hI h fD_kind d = 3 ↔ S 20 (14 * r + p) = 2 ∧ S 21 (14 * r + p) = 3 := by
            rcases hdr with ⟨a, b, -⟩ | ⟨a, b⟩ | ⟨a, b, -⟩
            · rw [a, b]
              exact ⟨fun z => absurd z (by decide), fun z => absurd z.1 (by decide)⟩
            · rw [a, b]
              exact ⟨fun z => ⟨rfl, z⟩, fun z => z.2⟩
            · rw [a, b]
              exact ⟨fun z => absurd z (by decide), fun z => absurd z.1 (by decide)⟩
          by_cases hk3 : hI h fD_kind d = 3
          · rw [if_pos hk3, if_pos (hk.mp hk3)]
            exact (ld_cl hD Q hp rs (gS S r) (fun q hq => hx q (List.mem_cons_of_mem _ hq))).1
          · rw [if_neg hk3, if_neg (fun z => hk3 (hk.mpr z))]
            exact i2 (ra r)
    · exact i2 b
/-! what is taken -/
theorem clO {S : MM} {p r : Nat} : ∀ {xs : List Nat} {g : Int32}, cl S p xs g = some r → ¬ (S 20 (14 * r + p) = 2 ∧ S 21 (14 * r + p) = 3)
  | [], g, h => by cases h
  | x :: xs, g, h => by
    unfold cl at h
    by_cases a : S 20 (14 * x + p) = 0 ∨ gS S x = g
    · rw [if_pos a] at h
      exact clO h
    · rw [if_neg a] at h
      by_cases b : S 20 (14 * x + p) = 2 ∧ S 21 (14 * x + p) = 3
      · rw [if_pos b] at h
        exact clO h
      · rw [if_neg b] at h
        cases h
        exact b
theorem pAf_i : ∀ p, p < 14 → pAf p = m_initial (nI p) := by decide +kernel
theorem canBe_c {p : Nat} (hp : p ≤ 14) (v : Int32) : m_canBe (nI p) v = 1 ↔ pLe (pq p) ≤ v ∧ v ≤ pGr (pq p) := by
  have hin : ∀ a b : Int32, m_in v a b = 1 ↔ a ≤ v ∧ v ≤ b := fun a b => by
    unfold m_in
    by_cases x : v < a
    · rw [if_pos x]
      exact ⟨fun z => absurd z (by decide), fun z => absurd z.1 (Int32.not_le.mpr x)⟩
    · rw [if_neg x]
      by_cases y : b < v
      · rw [if_pos y]
        exact ⟨fun z => absurd z (by decide), fun z => absurd z.2 (Int32.not_le.mpr y)⟩
      · rw [if_neg y]
        exact ⟨fun _ => ⟨Int32.not_lt.mp x, Int32.not_lt.mp y⟩, fun _ => rfl⟩
  have : p = 0 ∨ p = 1 ∨ p = 2 ∨ p = 3 ∨ p = 4 ∨ p = 5 ∨ p = 6 ∨ p = 7 ∨ p = 8 ∨ p = 9 ∨ p = 10 ∨ p = 11 ∨ p = 12 ∨ p = 13 ∨ p = 14 := by omega
  rcases this with rfl | rfl | rfl | rfl | rfl | rfl | rfl | rfl | rfl | rfl | rfl | rfl | rfl | rfl | rfl <;> exact hin _ _
theorem ihZ_u {S : MM} {w : WZ} {Z : MM} {e p : Nat} {b wd : Int32} (hp : p < 14) (hl : wl w 197 e = par S e) (hb : b = 0 ↔ ¬ (wd = 0 ∨ wd = 2 ∧ 8 ≤ p)) : ihZ w Z e p b = unY S Z e p wd := by
  unfold ihZ unY
  by_cases q : b = 0
  · rw [if_pos q, if_neg (hb.mp q), pAf_i p hp]
  · rw [if_neg q, if_pos (Decidable.byContradiction (fun z => q (hb.mpr z))), hl]
    cases par S e with
    | none => show (pAf p, _) = _; rw [pAf_i p hp]
    | some q => rfl
theorem fo_tk {S : MM} {R : Nat} {w : WZ} {h : Hp} {Z : MM} {Ds : Nat → Nat} {ss : List Nat} {pts : Nat → List Nat} {ra : Nat → Nat} {pa : Nat → Nat → Nat} (hD : TDo S R) (Q : RR S R h Ds ss pts ra pa) {e p : Nat} (hp : p < 14) (hl : wl w 197 e = par S e) {o : Option Nat}
    (ho : ∀ r, o = some r → r < R ∧ S 20 (14 * r + p) ≠ 0 ∧ ¬ (S 20 (14 * r + p) = 2 ∧ S 21 (14 * r + p) = 3)) : foZ w Z e p (tellT h Ds (o.map ra) p) = tkY S Z e p o ∧ (∀ v, v < 4 → p = 10 + v → ndZ (fun _ => tellT h Ds (o.map ra) p) v = ndS S (fun _ => o) v) := by
  have h8 : nI p < 8 ↔ p < 8 := nI_ltI (b := 8) (by omega) (by decide)
  have i8 : (if nI p < 8 then (0 : Int32) else 1) = 0 ↔ ¬ 8 ≤ p := by
    by_cases q : p < 8
    · rw [if_pos (h8.mpr q)]
      exact ⟨fun _ => by omega, fun _ => rfl⟩
    · rw [if_neg (fun z => q (h8.mp z))]
      exact ⟨fun z => absurd z (by decide), fun z => absurd (by omega) z⟩
  have u2' : ∀ b : Int32, (b = 0 ↔ ¬ 8 ≤ p) → ihZ w Z e p b = unY S Z e p 2 := fun b hb => ihZ_u hp hl (by
    rw [hb]
    constructor
    · rintro a (z | ⟨-, z⟩)
      · exact absurd z (by decide)
      · exact a z
    · exact fun a z => a (Or.inr ⟨rfl, z⟩))
  cases o with
  | none => exact ⟨u2' _ i8, fun v hv hpv => rfl⟩
  | some r =>
    obtain ⟨o1, o2, o3⟩ := ho r rfl
    obtain ⟨-, -, -, q4, -, -, q7⟩ := Q.2 r o1
    have hdr := q7 p hp
    show foZ w Z e p (match hQ h (Ds (ra r)) p with | none => none | some d => some (hI h fD_kind d, hI h fD_number d, hI h fD_variable d, hI h fU_number (ra r))) = _ ∧ ∀ v, v < 4 → p = 10 + v → ndZ (fun _ => match hQ h (Ds (ra r)) p with | none => none | some d => some (hI h fD_kind d, hI h fD_number d, hI h fD_variable d, hI h fU_number (ra r))) v = _
    cases hd : hQ h (Ds (ra r)) p with
    | none => exact absurd ((DR_none hdr).mp hd) o2
    | some d =>
      rw [hd] at hdr
      rw [q4]
      unfold foZ tkY ndZ ndS
      show (if hI h fD_kind d = 4 then _ else if hI h fD_kind d = 5 then _ else _) = (if S 20 (14 * r + p) = 1 then _ else if S 20 (14 * r + p) = 2 then _ else _) ∧ ∀ v, v < 4 → p = 10 + v → (if hI h fD_kind d = 5 then some (hI h fD_variable d).toNatClampNeg else none) = if S 20 (14 * r + (10 + v)) = 3 then some (tn (S 21 (14 * r + (10 + v)))) else none
      rcases hdr with ⟨a, b, c⟩ | ⟨a, b⟩ | ⟨a, b, c, d'⟩
      · refine ⟨?_, fun v hv hpv => ?_⟩
        · rw [a, b, if_pos rfl, if_pos rfl, c]
        · rw [← hpv, a, b, if_neg (by decide), if_neg (by decide)]
      · rcases hD r p o1 hp with z | ⟨z, -⟩ | ⟨-, wd, w1, w2⟩ | ⟨z, -⟩
        · exact absurd z o2
        · rw [a] at z; exact absurd z (by decide)
        · have h3 : wd ≠ 3 := fun z => o3 ⟨a, by rw [w2, z]; rfl⟩
          have hw : ∀ x : Int32, (x = 4 ∨ x = 5) → ¬ nI wd = x := fun x hx z => by
            have : wd = 0 ∨ wd = 1 ∨ wd = 2 := by omega
            rcases this with rfl | rfl | rfl <;> rcases hx with rfl | rfl <;> exact absurd z (by decide)
          refine ⟨?_, fun v hv hpv => ?_⟩
          · rw [a, b, w2, if_neg (hw 4 (Or.inl rfl)), if_neg (hw 5 (Or.inr rfl)), if_neg (by decide), if_pos rfl]
            refine ihZ_u hp hl ?_
            unfold ihB
            have : wd = 0 ∨ wd = 1 ∨ wd = 2 := by omega
            rcases this with rfl | rfl | rfl
            · rw [if_pos (show nI 0 = 0 from rfl)]
              exact ⟨fun z => absurd z (by decide), fun z => absurd (Or.inl rfl) z⟩
            · rw [if_neg (show ¬ nI 1 = 0 by decide), if_pos (show nI 1 = 1 from rfl)]
              refine ⟨fun _ z => ?_, fun _ => ?_⟩
              · rcases z with z | ⟨z, -⟩ <;> exact absurd z (by decide)
              · by_cases y : (if nI p < 8 then (0 : Int32) else 1) = 0
                · rw [if_pos y]
                · rw [if_neg y]
            · rw [if_neg (show ¬ nI 2 = 0 by decide), if_neg (show ¬ nI 2 = 1 by decide)]
              by_cases y : (if nI p < 8 then (0 : Int32) else 1) = 0
              · rw [if_pos y]
                refine ⟨fun _ z => ?_, fun _ => rfl⟩
                rcases z with z | ⟨-, z⟩
                · exact absurd z (by decide)
                · exact (i8.mp y) z
              · rw [if_neg y]
                refine ⟨fun z => absurd z (by decide), fun z => absurd (Or.inr ⟨rfl, ?_⟩) z⟩
                exact Decidable.byContradiction (fun x => y (i8.mpr x))
          · rw [← hpv, a, b, w2, if_neg (hw 5 (Or.inr rfl)), if_neg (by decide)]
        · rw [a] at z; exact absurd z (by decide)
      · rcases hD r p o1 hp with z | ⟨z, -⟩ | ⟨z, -⟩ | ⟨-, u, u1, u2, u3⟩
        · exact absurd z o2
        · rw [a] at z; exact absurd z (by decide)
        · rw [a] at z; exact absurd z (by decide)
        · have hcl : (hI h fD_variable d).toNatClampNeg = u := by rw [c, u2]; exact nI_clamp (by omega)
          refine ⟨?_, fun v hv hpv => ?_⟩
          · have hcb := canBe_c (p := p) (by omega) (Z e (10 + u))
            have hun : ihZ w Z e p (ihB p 5) = unY S Z e p 2 := by
              refine u2' _ ?_
              unfold ihB
              rw [if_neg (show ¬ (5 : Int32) = 0 by decide)]
              by_cases t : (if nI p < 8 then (0 : Int32) else 1) = 0
              · rw [if_pos t]
                exact ⟨fun _ => i8.mp t, fun _ => rfl⟩
              · rw [if_neg t, if_neg (show ¬ (5 : Int32) = 1 by decide)]
                exact ⟨fun z => absurd z (by decide), fun z => absurd (i8.mpr z) t⟩
            rw [hcl, d', a, b, if_neg (show ¬ (5 : Int32) = 4 by decide), if_pos (show (5 : Int32) = 5 from rfl), if_neg (show ¬ (3 : Int32) = 1 by decide), if_neg (show ¬ (3 : Int32) = 2 by decide), u2, tn_nI (by omega), hun]
            generalize Z e (10 + u) = t at hcb ⊢
            generalize S 22 (14 * r + p) = y at u3 ⊢
            generalize unY S Z e p 2 = q
            by_cases x : t = -1
            · have e1 : nbv p t y = y := by unfold nbv; rw [if_pos x]
              have e2 : ¬ (t ≠ -1 ∧ m_canBe (nI p) t = 1) := fun z => z.1 x
              rw [e1, if_neg e2]
            · by_cases k : m_canBe (nI p) t = 1
              · have e1 : nbv p t y = t := by unfold nbv; rw [if_neg x, if_pos (hcb.mp k)]
                have e2 : t ≠ -1 ∧ m_canBe (nI p) t = 1 := ⟨x, k⟩
                rw [e1, if_neg x, if_pos e2]
              · have e1 : nbv p t y = y := by unfold nbv; rw [if_neg x, if_neg (fun z => k (hcb.mpr z))]
                have e2 : ¬ (t ≠ -1 ∧ m_canBe (nI p) t = 1) := fun z => k z.2
                rw [e1, if_neg e2]
          · rw [← hpv, hcl, a, b, if_pos (show (5 : Int32) = 5 from rfl), if_pos (show (3 : Int32) = 3 from rfl), u2, tn_nI (by omega)]
