/-! ===== the class finds what has to be: all of it ===== -/
/-- the chains of the children -/
def CC (S : MM) (n : Nat) (w : WZ) (cs : Nat → List Nat) : Prop := ∀ k, k < n → cs k = chl S n k ∧ chn w (wl w 200 k) (cs k)
theorem nct_le {S : MM} {n : Nat} (T : TS S n) : ∀ f a q, a < n → nct S f (some a) = some q → q ≤ a
  | 0, a, q, _, z => by cases z
  | f + 1, a, q, ha, z => by
    have z' : (if S 9 a = 0 then nct S f (par S a) else some a) = some q := z
    by_cases y : S 9 a = 0
    · rw [if_pos y] at z'
      cases hpa : par S a with
      | none =>
        rw [hpa] at z'
        cases f <;> cases z'
      | some b =>
        rw [hpa] at z'
        obtain ⟨b1, b2⟩ := (par_S T ha).2 b hpa
        have := nct_le T f b q b2 z'
        omega
    · rw [if_neg y] at z'
      cases z'
      exact Nat.le_refl _
/-- the element is settled before step k -/
def stl (S : MM) (k e : Nat) : Prop := e = 0 ∨ ∃ p, p < k ∧ par S e = some p
theorem stl_le {S : MM} {n k q : Nat} (T : TS S n) (hq : q < n) (h : q ≤ k) : stl S k q := by
  rcases Nat.eq_zero_or_pos q with z | z
  · exact Or.inl z
  · obtain ⟨p, p1, p2, p3⟩ := par_s T z hq
    exact Or.inr ⟨p, by omega, p3⟩
def J1 (S : MM) (n R : Nat) (W : Int32) (k : Nat) (Z : MM) : Prop :=
  (∀ e, e < n → stl S k e → LEV S Z n R e ∧ rng Z e ∧ Z e 31 = 0 ∧ Z e 33 = 0 ∧ Z e 34 = 0 ∧ (Z e 29 = 0 → Z e 30 = 0 ∧ Z e 32 = 0)) ∧
  (Z 0 29 = if Z 0 5 = 3 then 0 else 1) ∧ (Z 0 29 ≠ 0 → Z 0 32 = owY Z 0 W ∧ Z 0 30 = 0) ∧
  (∀ e p, e < n → p < k → par S e = some p → Z e 29 = if Z p 29 = 0 then 0 else if Z e 5 = 3 then 0 else 1) ∧ ∀ p, p < k → p < n → LEW S Z n p
theorem foldV {S : MM} {n R : Nat} {w : WZ} {h : Hp} {U up : Nat → List Nat} {Ds : Nat → Nat} {ss : List Nat} {pts : Nat → List Nat} {ra : Nat → Nat} {pa : Nat → Nat → Nat} (T : TS S n) (hT : RTo S R) (hD : TDo S R) (E : ER S n w h U up) (Q : RR S R h Ds ss pts ra pa) {k : Nat} (hk : k < n) :
    ∀ (l : List Nat) (Z : MM), l.Nodup → (∀ c, c ∈ l → c < n ∧ par S c = some k) → (∀ q, q ≤ k → Z q 29 = 0 → Z q 32 = 0) →
      (∀ q j, (q ∉ l ∨ 28 ≤ j) → (l.foldl (fun Z c => valZ w h Ds ss pts U up c Z) Z) q j = Z q j) ∧ ∀ c, c ∈ l → LEV S (l.foldl (fun Z c => valZ w h Ds ss pts U up c Z) Z) n R c
  | [], Z, _, _, _ => ⟨fun _ _ _ => rfl, fun c hc => by cases hc⟩
  | c :: l, Z, hn, hl, hz => by
    obtain ⟨hc, hcp⟩ := hl c List.mem_cons_self
    obtain ⟨hcl, hnl⟩ := List.nodup_cons.mp hn
    have hq : ∀ d, d ∈ c :: l → ∀ q, nct S 26 (par S d) = some q → q ≤ k := fun d hd q hq => by
      rw [(hl d hd).2] at hq
      exact nct_le T 26 k q hk hq
    have hkl : ∀ d, d ∈ c :: l → k < d := fun d hd => ((par_S T (hl d hd).1).2 k (hl d hd).2).1
    obtain ⟨v1, v2⟩ := val_s T hT hD E Q hc (Z := Z) (fun q hqq => hz q (hq c List.mem_cons_self q hqq))
    obtain ⟨i1, i2⟩ := foldV T hT hD E Q hk l (valZ w h Ds ss pts U up c Z) hnl (fun d hd => hl d (List.mem_cons_of_mem _ hd)) (fun q hqk => by
      rw [v1 q 29 (Or.inr (by decide)), v1 q 32 (Or.inr (by decide))]
      exact hz q hqk)
    rw [List.foldl_cons]
    refine ⟨fun q j hj => ?_, fun d hd => ?_⟩
    · rw [i1 q j (hj.imp (fun y z => y (List.mem_cons_of_mem _ z)) id), v1 q j (hj.imp (fun y z => y (by rw [z]; exact List.mem_cons_self)) id)]
    · rcases List.mem_cons.mp hd with z | z
      · subst z
        have hkn : k ∉ l := fun y => by
          have := hkl k (List.mem_cons_of_mem _ y)
          omega
        refine LEV_f T hD hc (fun j _ => i1 d j (Or.inl hcl)) (fun q hqp j _ => ?_) (fun q hqq => ⟨i1 q 29 (Or.inr (by decide)), i1 q 32 (Or.inr (by decide))⟩) v2
        rw [hcp] at hqp
        cases hqp
        exact i1 k j (Or.inl hkn)
      · exact i2 d z
theorem J1_s {S : MM} {n R : Nat} {W : Int32} {w : WZ} {h : Hp} {U up cs : Nat → List Nat} {Ds : Nat → Nat} {ss : List Nat} {pts : Nat → List Nat} {ra : Nat → Nat} {pa : Nat → Nat → Nat} (TT : TOLD S n R) (E : ER S n w h U up) (Q : RR S R h Ds ss pts ra pa) (C : CC S n w cs) {k : Nat} (hk : k < n) {Z : MM} (J : J1 S n R W k Z) :
    ∃ Z' : MM, k_measureChildren w ((cs k).foldl (fun Z c => valZ w h Ds ss pts U up c Z) Z) k = some Z' ∧ J1 S n R W (k + 1) Z' := by
  obtain ⟨T, hT, hD, hW⟩ := TT
  obtain ⟨j1, j2, j3, j4, j5⟩ := J
  obtain ⟨c1, c2⟩ := C k hk
  rw [c1] at c2 ⊢
  have hx := chl_x (p := k) T
  have hch : ∀ c, c ∈ chl S n k → c < n ∧ par S c = some k := fun c hc => chl_m.mp hc
  obtain ⟨f1, f2⟩ := foldV T hT hD E Q hk (chl S n k) Z chl_n hch (fun q hq h0 => ((j1 q (by omega) (stl_le T (by omega) hq)).2.2.2.2.2 h0).2)
  generalize (chl S n k).foldl (fun Z c => valZ w h Ds ss pts U up c Z) Z = Zf at f1 f2 ⊢
  have hsk := j1 k hk (stl_le T hk (Nat.le_refl _))
  have hZk : ∀ j, Zf k j = Z k j := fun j => f1 k j (Or.inl hx)
  have rngk : rng Zf k := by
    unfold rng
    simp only [hZk]
    exact hsk.2.1
  have rc : ∀ c, c ∈ chl S n k → rng Zf c := fun c hc => LEV_r T hD (hch c hc).1 (fun q hq => by
    rw [(hch c hc).2] at hq
    cases hq
    exact rngk) (f2 c hc)
  obtain ⟨t, t0, t7, ht⟩ := (rng_x rngk).1
  obtain ⟨Z', m1, m2, m3, m4⟩ := clMea (Z := Zf) T hW (fun c hc => ⟨(E.2.2 c hc).2.2.2.2.1, (E.2.2 c hc).2.2.2.2.2.1⟩) c2 (fun c hc => (rng_x (rc c hc)).2.2.2.1) ht t0 t7
  refine ⟨Z', m1, fun e he hs => ?_, ?_, ?_, fun e p he hp hpe => ?_, fun p hp hpn => ?_⟩
  · by_cases hek : e ∈ chl S n k
    · obtain ⟨b1, b2, b3, b4, b5⟩ := m3 e hek
      have hkc := ((par_S T he).2 k (hch e hek).2).1
      have hv : LEV S Z' n R e := LEV_f T hD he (fun j hj => m2 e j (Or.inr (Or.inl (by omega)))) (fun q hq j hj => m2 q j (Or.inr (Or.inl (by omega)))) (fun q hq => by
        have hqk : q ≤ k := by
          rw [(hch e hek).2] at hq
          exact nct_le T 26 k q hk hq
        have hqn : q ∉ chl S n k := fun z => by
          have := ((par_S T (hch q z).1).2 k (hch q z).2).1
          omega
        exact ⟨m2 q 29 (Or.inl hqn), m2 q 32 (Or.inl hqn)⟩) (f2 e hek)
      refine ⟨hv, ?_, b2, b3, b4, b5⟩
      have := rc e hek
      unfold rng at this ⊢
      refine ⟨fun p hp => ?_, fun v hv' => ?_⟩
      · rw [m2 e p (Or.inr (Or.inl (by omega)))]
        exact this.1 p hp
      · rw [m2 e (10 + v) (Or.inr (Or.inl (by omega))), m2 e (24 + v) (Or.inr (Or.inl (by omega)))]
        exact this.2 v hv'
    · have hs' : stl S k e := by
        rcases hs with z | ⟨p, p1, p2⟩
        · exact Or.inl z
        · have : p ≠ k := fun z => hek (chl_m.mpr ⟨he, by rw [← z]; exact p2⟩)
          exact Or.inr ⟨p, by omega, p2⟩
      have hrow : ∀ j, Z' e j = Z e j := fun j => (m2 e j (Or.inl hek)).trans (f1 e j (Or.inl hek))
      obtain ⟨a1, a2, a3, a4, a5, a6⟩ := j1 e he hs'
      have hpk : ∀ q, par S e = some q → q < k := fun q hq => by
        rcases hs' with z | ⟨p, p1, p2⟩
        · subst z
          rw [par_0 T] at hq
          cases hq
        · rw [p2] at hq
          cases hq
          exact p1
      have hno : ∀ q, q < n → q ≤ k → q ∉ chl S n k := fun q hqn hqk z => by
        have := ((par_S T hqn).2 k (hch q z).2).1
        omega
      refine ⟨LEV_f T hD he (fun j _ => hrow j) (fun q hq j _ => ?_) (fun q hq => ?_) a1, ?_, by rw [hrow]; exact a3, by rw [hrow]; exact a4, by rw [hrow]; exact a5, by rw [hrow, hrow, hrow]; exact a6⟩
      · have h1 := ((par_S T he).2 q hq).2
        have h2 := hno q h1 (by have := hpk q hq; omega)
        exact (m2 q j (Or.inl h2)).trans (f1 q j (Or.inl h2))
      · cases hpe : par S e with
        | none =>
          rw [hpe] at hq
          cases hq
        | some a =>
          rw [hpe] at hq
          obtain ⟨q1, q2⟩ := (par_S T he).2 a hpe
          have h1 := nct_le T 26 a q q2 hq
          have h2 := hno q (by omega) (by have := hpk a hpe; omega)
          exact ⟨(m2 q 29 (Or.inl h2)).trans (f1 q 29 (Or.inl h2)), (m2 q 32 (Or.inl h2)).trans (f1 q 32 (Or.inl h2))⟩
      · unfold rng at a2 ⊢
        simp only [hrow]
        exact a2
  · have h0 : 0 ∉ chl S n k := fun z => by
      have := (hch 0 z).2
      rw [par_0 T] at this
      cases this
    rw [m2 0 29 (Or.inl h0), m2 0 5 (Or.inl h0), f1 0 29 (Or.inl h0), f1 0 5 (Or.inl h0)]
    exact j2
  · have h0 : 0 ∉ chl S n k := fun z => by
      have := (hch 0 z).2
      rw [par_0 T] at this
      cases this
    have hr : ∀ j, Z' 0 j = Z 0 j := fun j => (m2 0 j (Or.inl h0)).trans (f1 0 j (Or.inl h0))
    unfold owY at j3 ⊢
    simp only [hr]
    exact j3
  · have hpn := ((par_S T he).2 p hpe).2
    have hpx : p ∉ chl S n k := fun z => by
      have := ((par_S T hpn).2 k (hch p z).2).1
      omega
    rw [m2 p 29 (Or.inl hpx), f1 p 29 (Or.inl hpx), m2 e 5 (Or.inr (Or.inl (by decide)))]
    by_cases hek : e ∈ chl S n k
    · have := (hch e hek).2
      rw [hpe] at this
      cases this
      rw [(m3 e hek).1, hZk 29]
    · rw [m2 e 29 (Or.inl hek), f1 e 29 (Or.inl hek), f1 e 5 (Or.inl hek)]
      have hpk : p ≠ k := fun z => hek (chl_m.mpr ⟨he, by rw [← z]; exact hpe⟩)
      exact j4 e p he (by omega) hpe
  · by_cases z : p = k
    · rw [z]
      exact m4
    · have hpx : p ∉ chl S n k := fun z => by
        have := ((par_S T hpn).2 k (hch p z).2).1
        omega
      refine LEW_f (fun j _ _ => (m2 p j (Or.inl hpx)).trans (f1 p j (Or.inl hpx))) (fun c hc j _ => Or.inl ?_) (j5 p (by omega) hpn)
      have hcx : c ∉ chl S n k := fun y => by
        have h1 := (chl_m.mp hc).2
        rw [(hch c y).2] at h1
        exact z (Option.some.inj h1).symm
      exact (m2 c j (Or.inl hcx)).trans (f1 c j (Or.inl hcx))
theorem J1_0 {S : MM} {n R : Nat} {W : Int32} {w : WZ} {h : Hp} {U up : Nat → List Nat} {Ds : Nat → Nat} {ss : List Nat} {pts : Nat → List Nat} {ra : Nat → Nat} {pa : Nat → Nat → Nat} (TT : TOLD S n R) (E : ER S n w h U up) (Q : RR S R h Ds ss pts ra pa) {Z : MM} :
    ∃ Z' : MM, k_measureRoot w (valZ w h Ds ss pts U up 0 Z) 0 W = some Z' ∧ J1 S n R W 0 Z' := by
  obtain ⟨T, hT, hD, hW⟩ := TT
  have hn : 0 < n := T.2.1
  obtain ⟨v1, v2⟩ := val_s T hT hD E Q hn (Z := Z) (fun q hq => by
    rw [par_0 T] at hq
    cases hq)
  generalize valZ w h Ds ss pts U up 0 Z = Z0 at v1 v2 ⊢
  have r0 : rng Z0 0 := LEV_r T hD hn (fun q hq => by rw [par_0 T] at hq; cases hq) v2
  obtain ⟨Z1, eZ1⟩ : ∃ Z1, Z1 = zBegin Z0 0 (if Z0 0 5 = 3 then 0 else 1) := ⟨_, rfl⟩
  obtain ⟨b1, b2⟩ := zB_1 (Z := Z0) (e := 0) (b := if Z0 0 5 = 3 then 0 else 1)
  rw [← eZ1] at b1 b2
  have o1 : ∀ q j, (q ≠ 0 ∨ j < 29 ∨ 36 < j) → Z1 q j = Z0 q j := fun q j hq => by rw [eZ1]; exact zB_2 hq
  have e0 : k_measureRoot w Z0 0 W = if Z1 0 29 = 0 then some Z1 else some (u2 Z1 0 32 (owY Z1 0 W)) := by
    unfold k_measureRoot
    rw [bnd_s, ← eZ1, kow]
    rfl
  -- what holds of the end
  have fin : ∀ Z2 : MM, (∀ q j, (q ≠ 0 ∨ j ≠ 32) → Z2 q j = Z1 q j) → (Z1 0 29 = 0 → Z2 0 32 = 0) → (Z1 0 29 ≠ 0 → Z2 0 32 = owY Z1 0 W) → J1 S n R W 0 Z2 := by
    intro Z2 h1 h2 h3
    have c28 : ∀ j, j < 28 → Z2 0 j = Z0 0 j := fun j hj => (h1 0 j (Or.inr (by omega))).trans (o1 0 j (Or.inr (Or.inl (by omega))))
    refine ⟨fun e he hs => ?_, ?_, fun hb => ⟨?_, ?_⟩, fun e p _ hp => absurd hp (Nat.not_lt_zero p), fun p hp => absurd hp (Nat.not_lt_zero p)⟩
    · have he0 : e = 0 := by
        rcases hs with z | ⟨p, z, -⟩
        · exact z
        · exact absurd z (Nat.not_lt_zero p)
      subst he0
      refine ⟨LEV_f T hD hn c28 (fun q hq => by rw [par_0 T] at hq; cases hq) (fun q hq => by rw [par_0 T] at hq; cases hq) v2, ?_, ?_, ?_, ?_, fun hb => ⟨?_, ?_⟩⟩
      · unfold rng at r0 ⊢
        refine ⟨fun p hp => by rw [c28 p (by omega)]; exact r0.1 p hp, fun v hv => by rw [c28 (10 + v) (by omega), c28 (24 + v) (by omega)]; exact r0.2 v hv⟩
      · rw [h1 0 31 (Or.inr (by decide))]; exact b2 31 (by decide) (by decide)
      · rw [h1 0 33 (Or.inr (by decide))]; exact b2 33 (by decide) (by decide)
      · rw [h1 0 34 (Or.inr (by decide))]; exact b2 34 (by decide) (by decide)
      · rw [h1 0 30 (Or.inr (by decide))]; exact b2 30 (by decide) (by decide)
      · rw [h1 0 29 (Or.inr (by decide))] at hb
        exact h2 hb
    · rw [h1 0 29 (Or.inr (by decide)), b1, c28 5 (by decide)]
    · rw [h1 0 29 (Or.inr (by decide))] at hb
      rw [h3 hb]
      unfold owY
      rw [h1 0 2 (Or.inr (by decide)), h1 0 0 (Or.inr (by decide))]
    · rw [h1 0 30 (Or.inr (by decide))]
      exact b2 30 (by decide) (by decide)
  rw [e0]
  by_cases b : Z1 0 29 = 0
  · rw [if_pos b]
    exact ⟨Z1, rfl, fin Z1 (fun _ _ _ => rfl) (fun _ => b2 32 (by decide) (by decide)) (fun z => absurd b z)⟩
  · rw [if_neg b]
    refine ⟨_, rfl, fin _ (fun q j hq => ?_) (fun z => absurd z b) (fun _ => u2_self _ _ _ _)⟩
    exact u2_ne (fun z => hq.elim (fun y => y z.1) (fun y => y z.2))
theorem itF_s {S : MM} {n R : Nat} {W : Int32} {w : WZ} {h : Hp} {U up cs : Nat → List Nat} {Ds : Nat → Nat} {ss : List Nat} {pts : Nat → List Nat} {ra : Nat → Nat} {pa : Nat → Nat → Nat} (TT : TOLD S n R) (E : ER S n w h U up) (Q : RR S R h Ds ss pts ra pa) (C : CC S n w cs) : ∀ (m k : Nat) (Z : MM), k + m = n → 0 < k → J1 S n R W k Z →
    ∃ Z' : MM, itF (an1 w (valZ w h Ds ss pts U up) W cs) m k Z = some Z' ∧ J1 S n R W n Z'
  | 0, k, Z, hk, _, J => by
    have : k = n := by omega
    subst this
    exact ⟨Z, rfl, J⟩
  | m + 1, k, Z, hk, h0, J => by
    have hkn : k < n := by omega
    obtain ⟨Z1, a1, a2⟩ := J1_s TT E Q C hkn J
    obtain ⟨Z2, b1, b2⟩ := itF_s TT E Q C m (k + 1) Z1 (by omega) (by omega) a2
    refine ⟨Z2, ?_, b2⟩
    have e1 : an1 w (valZ w h Ds ss pts U up) W cs k Z = some Z1 := by
      unfold an1
      obtain ⟨q, q1, q2, q3⟩ := par_s TT.1 h0 hkn
      rw [(E.2.2 k hkn).1, q3]
      exact a1
    rw [itF, e1]
    exact b1
theorem LEH0_f {S Y Y' : MM} {n p : Nat} (h1 : ∀ j, j ≠ 31 → Y' p j = Y p j) (h2 : ∀ c, c ∈ chl S n p → ∀ j, Y' c j = Y c j) (h : LEH0 S Y n p) : LEH0 S Y' n p := by
  intro hb
  have hb' : Y p 29 ≠ 0 := by rw [← h1 29 (by decide)]; exact hb
  obtain ⟨k1, k2, k3⟩ := h hb'
  have ek : kdk S Y' p n = kdk S Y p n := by
    rw [kdk_bx, kdk_bx]
    exact bx_c (fun c hcc => h2 c hcc 29)
  have hkc : ∀ c, c ∈ kdk S Y p n → c ∈ chl S n p := fun c hcc => chl_m.mpr ⟨(kdk_m.mp hcc).1, (kdk_m.mp hcc).2.1⟩
  have g1 := fun x y k (t : Int32) => sr_c (t := t) (kdk S Y p n) (A := fun c => Y' c 3) (A' := fun c => Y c 3) (H := fun c => Y' c 33) (H' := fun c => Y c 33) (B := fun c => Y' c 4) (B' := fun c => Y c 4) x y k (fun c hc => h2 c (hkc c hc) 3) (fun c hc => h2 c (hkc c hc) 33) (fun c hc => h2 c (hkc c hc) 4)
  have g2 := fun x y => sb_c (kdk S Y p n) (A := fun c => Y' c 3) (A' := fun c => Y c 3) (H := fun c => Y' c 33) (H' := fun c => Y c 33) (B := fun c => Y' c 4) (B' := fun c => Y c 4) x y (fun c hc => h2 c (hkc c hc) 3) (fun c hc => h2 c (hkc c hc) 33) (fun c hc => h2 c (hkc c hc) 4)
  rw [ek]
  refine ⟨?_, ?_, fun c hcb => ?_⟩
  · rw [h1 34 (by decide), h1 9 (by decide), h1 32 (by decide)]
    exact k1
  · rw [(g1 _ _ _ _).1, (g1 _ _ _ _).1, (g2 _ _).1, h1 33 (by decide), h1 1 (by decide), h1 5 (by decide), h1 7 (by decide), h1 34 (by decide), h1 9 (by decide)]
    exact k2
  · rw [(g1 _ _ _ _).2, (g1 _ _ _ _).2, (g2 _ _).2, h2 c (hkc c hcb), h1 5 (by decide), h1 7 (by decide), h1 34 (by decide), h1 9 (by decide)]
    exact k3 c hcb
/-- behind the heights of the elements from k on -/
def J2 (S : MM) (n : Nat) (Z1 : MM) (k : Nat) (Z : MM) : Prop := (∀ q j, j ≠ 31 → j ≠ 33 → j ≠ 34 → Z q j = Z1 q j) ∧ (∀ p, k ≤ p → p < n → LEH0 S Z n p) ∧ (∀ e, e < n → Z1 e 29 = 0 → Z e 31 = 0 ∧ Z e 33 = 0 ∧ Z e 34 = 0) ∧ Z 0 31 = 0
theorem itB_s {S : MM} {n R : Nat} {w : WZ} {h : Hp} {U up cs : Nat → List Nat} {Z1 : MM} (TT : TOLD S n R) (E : ER S n w h U up) (C : CC S n w cs) : ∀ (k : Nat) (Z : MM), k ≤ n → J2 S n Z1 k Z → ∃ Z' : MM, itB (fun k Z => k_findHeight w Z k) k Z = some Z' ∧ J2 S n Z1 0 Z'
  | 0, Z, _, J => ⟨Z, rfl, J⟩
  | k + 1, Z, hk, J => by
    obtain ⟨T, hT, hD, hW⟩ := TT
    have hkn : k < n := by omega
    obtain ⟨c1, c2⟩ := C k hkn
    rw [c1] at c2
    obtain ⟨j1, j2, j3, j4⟩ := J
    obtain ⟨Z2, a1, a2, a3, a4⟩ := clHei (Z := Z) T hW hkn (E.2.2 k hkn).2.2.2.2.1 c2
    have J' : J2 S n Z1 k Z2 := by
      refine ⟨fun q j x y z => (a2 q j ⟨fun _ => ⟨y, z⟩, fun _ => x⟩).trans (j1 q j x y z), fun p hp hpn => ?_, fun e he h0 => ?_, ?_⟩
      · by_cases z : p = k
        · rw [z]
          exact a3
        · have hpc : ∀ c, c ∈ chl S n p → c ≠ k ∧ c ∉ kdk S Z k n := fun c hc => by
            obtain ⟨x, y⟩ := chl_m.mp hc
            have := ((par_S T x).2 p y).1
            refine ⟨by omega, fun u => ?_⟩
            have h2 := (kdk_m.mp u).2.1
            rw [y] at h2
            exact z (Option.some.inj h2)
          refine LEH0_f (fun j hj => a2 p j ⟨fun y => absurd y z, fun _ => hj⟩) (fun c hc j => a2 c j ⟨fun y => absurd y (hpc c hc).1, fun y => absurd y (hpc c hc).2⟩) (j2 p (by omega) hpn)
      · obtain ⟨x1, x2, x3⟩ := j3 e he h0
        have hZe : Z e 29 = 0 := by rw [j1 e 29 (by decide) (by decide) (by decide)]; exact h0
        have hno : e ∉ kdk S Z k n := fun u => (kdk_m.mp u).2.2 hZe
        by_cases z : e = k
        · rw [z] at hZe
          rw [a4 hZe]
          exact ⟨x1, x2, x3⟩
        · rw [a2 e 31 ⟨fun y => absurd y z, fun y => absurd y hno⟩, a2 e 33 ⟨fun y => absurd y z, fun y => absurd y hno⟩, a2 e 34 ⟨fun y => absurd y z, fun y => absurd y hno⟩]
          exact ⟨x1, x2, x3⟩
      · rw [a2 0 31 ⟨fun _ => ⟨by decide, by decide⟩, fun u => by
          have := (kdk_m.mp u).2.1
          rw [par_0 T] at this
          cases this⟩]
        exact j4
    obtain ⟨Z3, b1, b2⟩ := itB_s ⟨T, hT, hD, hW⟩ E C k Z2 (by omega) J'
    refine ⟨Z3, ?_, b2⟩
    show (k_findHeight w Z k).bind _ = some Z3
    rw [a1]
    exact b1
/-- behind the places of the children of those before k -/
def J3 (S : MM) (n : Nat) (Z2 : MM) (k : Nat) (Z : MM) : Prop := (∀ q j, j ≠ 31 → Z q j = Z2 q j) ∧ (∀ c p, c < n → par S c = some p → Z2 c 29 ≠ 0 → (p < k → Z c 31 = Z2 c 31 + Z p 31) ∧ (k ≤ p → Z c 31 = Z2 c 31)) ∧ (∀ e, e < n → Z2 e 29 = 0 ∨ e = 0 → Z e 31 = Z2 e 31)
theorem itP_s {S : MM} {n R : Nat} {w : WZ} {cs : Nat → List Nat} {Z2 : MM} (TT : TOLD S n R) (C : CC S n w cs) : ∀ (m k : Nat) (Z : MM), k + m = n → J3 S n Z2 k Z → ∃ Z' : MM, itF (fun k Z => k_placeChildren w Z k) m k Z = some Z' ∧ J3 S n Z2 n Z'
  | 0, k, Z, hk, J => by
    have : k = n := by omega
    subst this
    exact ⟨Z, rfl, J⟩
  | m + 1, k, Z, hk, J => by
    have T := TT.1
    have hkn : k < n := by omega
    obtain ⟨c1, c2⟩ := C k hkn
    rw [c1] at c2
    obtain ⟨j1, j2, j3⟩ := J
    obtain ⟨Z3, a1, a2, a3⟩ := clPla (Z := Z) T c2
    have hkd : kdk S Z k n = kdk S Z2 k n := by
      rw [kdk_bx, kdk_bx]
      exact bx_c (fun c _ => j1 c 29 (by decide))
    rw [hkd] at a2 a3
    have J' : J3 S n Z2 (k + 1) Z3 := by
      refine ⟨fun q j hj => (a3 q j (Or.inr hj)).trans (j1 q j hj), fun c p hc hcp hb => ?_, fun e he h0 => ?_⟩
      · obtain ⟨x, y⟩ := j2 c p hc hcp hb
        have hpn := ((par_S T hc).2 p hcp).2
        by_cases z : p = k
        · subst z
          have hkx : p ∉ kdk S Z2 p n := fun u => by
            have := ((par_S T hpn).2 p (kdk_m.mp u).2.1).1
            omega
          refine ⟨fun _ => ?_, fun u => absurd u (by omega)⟩
          rw [a2 c (kdk_m.mpr ⟨hc, hcp, hb⟩), a3 p 31 (Or.inl hkx), y (Nat.le_refl _)]
        · have hcx : c ∉ kdk S Z2 k n := fun u => by
            have h2 := (kdk_m.mp u).2.1
            rw [hcp] at h2
            exact z (Option.some.inj h2)
          rw [a3 c 31 (Or.inl hcx)]
          refine ⟨fun u => ?_, fun u => y (by omega)⟩
          have hpx : p ∉ kdk S Z2 k n := fun u => by
            have := ((par_S T hpn).2 k (kdk_m.mp u).2.1).1
            omega
          rw [a3 p 31 (Or.inl hpx)]
          exact x (by omega)
      · have hex : e ∉ kdk S Z2 k n := fun u => by
          obtain ⟨u1, u2, u3⟩ := kdk_m.mp u
          rcases h0 with z | z
          · exact u3 z
          · rw [z, par_0 T] at u2
            cases u2
        rw [a3 e 31 (Or.inl hex)]
        exact j3 e he h0
    obtain ⟨Z4, b1, b2⟩ := itP_s TT C m (k + 1) Z3 (by omega) J'
    refine ⟨Z4, ?_, b2⟩
    show (k_placeChildren w Z k).bind _ = some Z4
    rw [a1]
    exact b1
/-- the class finds what has to be -/
theorem an_s {S : MM} {n R : Nat} {w : WZ} {h : Hp} {U up cs : Nat → List Nat} {Ds : Nat → Nat} {ss : List Nat} {pts : Nat → List Nat} {ra : Nat → Nat} {pa : Nat → Nat → Nat} (TT : TOLD S n R) (E : ER S n w h U up) (Q : RR S R h Ds ss pts ra pa) (C : CC S n w cs) (Z : MM) :
    ∃ Z' : MM, anZ w (valZ w h Ds ss pts U up) (S 1 0) cs Z = some Z' ∧ LE S Z' n R ∧ (∀ e, e < n → rng Z' e) ∧ ∀ e, e < n → Z' e 29 = 0 → ∀ j, 30 ≤ j → j ≤ 34 → Z' e j = 0 := by
  have T := TT.1
  have hn : 0 < n := T.2.1
  obtain ⟨Z0, a1, a2⟩ := J1_0 (W := S 1 0) TT E Q (Z := Z)
  obtain ⟨Z1, b1, b2⟩ := J1_s TT E Q C hn a2
  obtain ⟨Z2, c1, c2⟩ := itF_s TT E Q C (n - 1) 1 Z1 (by omega) (by omega) b2
  obtain ⟨j1, j2, j3, j4, j5⟩ := c2
  have hst : ∀ e, e < n → stl S n e := fun e he => stl_le T he (by omega)
  obtain ⟨Z3, d1, d2⟩ := itB_s (Z1 := Z2) TT E C n Z2 (Nat.le_refl _) ⟨fun _ _ _ _ _ => rfl, fun p hp hpn => absurd hpn (by omega), fun e he _ => by
    obtain ⟨-, -, x, y, z, -⟩ := j1 e he (hst e he)
    exact ⟨x, y, z⟩, (j1 0 hn (hst 0 hn)).2.2.1⟩
  obtain ⟨k1, k2, k3, k4⟩ := d2
  obtain ⟨Z4, e1, e2⟩ := itP_s (Z2 := Z3) TT C n 0 Z3 (by omega) ⟨fun _ _ _ => rfl, fun c p _ _ _ => ⟨fun z => absurd z (Nat.not_lt_zero p), fun _ => rfl⟩, fun _ _ _ => rfl⟩
  obtain ⟨l1, l2, l3⟩ := e2
  have o : ∀ q j, j ≠ 31 → j ≠ 33 → j ≠ 34 → Z4 q j = Z2 q j := fun q j x y z => (l1 q j x).trans (k1 q j x y z)
  refine ⟨Z4, ?_, ⟨fun e he => ?_, ⟨?_, fun c p hc hcp => ?_⟩, fun hb => ⟨?_, ?_, ?_⟩, fun p hp => ?_, fun p hp => ?_⟩, fun e he => ?_, fun e he h0 j hj1 hj2 => ?_⟩
  · have ew : wn w = n := E.1
    have e0 : an1 w (valZ w h Ds ss pts U up) (S 1 0) cs 0 Z = some Z1 := by
      unfold an1
      rw [(E.2.2 0 hn).1, par_0 T]
      show (k_measureRoot w (valZ w h Ds ss pts U up 0 Z) 0 (S 1 0)).bind _ = some Z1
      rw [a1]
      exact b1
    have eF : itF (an1 w (valZ w h Ds ss pts U up) (S 1 0) cs) n 0 Z = some Z2 := by
      obtain ⟨m, rfl⟩ : ∃ m, n = m + 1 := ⟨n - 1, by omega⟩
      rw [itF, e0]
      exact c1
    unfold anZ
    rw [ew, eF]
    show (itB (fun k Z => k_findHeight w Z k) n Z2).bind _ = some Z4
    rw [d1]
    exact e1
  · exact LEV_f T TT.2.2.1 he (fun j _ => o e j (by omega) (by omega) (by omega)) (fun q _ j _ => o q j (by omega) (by omega) (by omega)) (fun q _ => ⟨o q 29 (by decide) (by decide) (by decide), o q 32 (by decide) (by decide) (by decide)⟩) (j1 e he (hst e he)).1
  · rw [o 0 29 (by decide) (by decide) (by decide), o 0 5 (by decide) (by decide) (by decide)]
    exact j2
  · rw [o c 29 (by decide) (by decide) (by decide), o c 5 (by decide) (by decide) (by decide), o p 29 (by decide) (by decide) (by decide)]
    exact j4 c p hc ((par_S T hc).2 p hcp).2 hcp
  · rw [o 0 29 (by decide) (by decide) (by decide)] at hb
    have := (j3 hb).1
    unfold owY at this ⊢
    rw [o 0 32 (by decide) (by decide) (by decide), o 0 2 (by decide) (by decide) (by decide), o 0 0 (by decide) (by decide) (by decide)]
    exact this
  · rw [o 0 29 (by decide) (by decide) (by decide)] at hb
    rw [o 0 30 (by decide) (by decide) (by decide)]
    exact (j3 hb).2
  · rw [l3 0 hn (Or.inr rfl)]
    exact k4
  · refine LEW_f (fun j hj hj1 => o p j hj1 (by omega) (by omega)) (fun c _ j hj => ?_) (j5 p hp hp)
    · by_cases z : j = 31
      · exact Or.inr z
      · exact Or.inl (o c j z (by omega) (by omega))
  · intro hb
    rw [l1 p 29 (by decide)] at hb
    obtain ⟨m1, m2, m3⟩ := k2 p (Nat.zero_le _) hp hb
    have ef : ∀ j, j ≠ 31 → (fun c => Z4 c j) = fun c => Z3 c j := fun j hj => funext fun c => l1 c j hj
    have ek : kdk S Z4 p n = kdk S Z3 p n := by
      rw [kdk_bx, kdk_bx]
      exact bx_c (fun c _ => l1 c 29 (by decide))
    rw [ek, ef 3 (by decide), ef 33 (by decide), ef 4 (by decide), l1 p 34 (by decide), l1 p 9 (by decide), l1 p 32 (by decide), l1 p 33 (by decide), l1 p 1 (by decide), l1 p 5 (by decide), l1 p 7 (by decide)]
    refine ⟨m1, m2, fun c hcb => ?_⟩
    obtain ⟨u1, u2, u3⟩ := kdk_m.mp hcb
    rw [(l2 c p u1 u2 u3).1 hp, m3 c hcb]
  · have := (j1 e he (hst e he)).2.1
    unfold rng at this ⊢
    refine ⟨fun p hp => by rw [o e p (by omega) (by omega) (by omega)]; exact this.1 p hp, fun v hv => by rw [o e (10 + v) (by omega) (by omega) (by omega), o e (24 + v) (by omega) (by omega) (by omega)]; exact this.2 v hv⟩
  · rw [o e 29 (by decide) (by decide) (by decide)] at h0
    obtain ⟨x1, x2⟩ := (j1 e he (hst e he)).2.2.2.2.2 h0
    obtain ⟨y1, y2, y3⟩ := k3 e he h0
    have h0' : Z3 e 29 = 0 := by rw [k1 e 29 (by decide) (by decide) (by decide)]; exact h0
    have : j = 30 ∨ j = 31 ∨ j = 32 ∨ j = 33 ∨ j = 34 := by omega
    rcases this with rfl | rfl | rfl | rfl | rfl
    · rw [o e 30 (by decide) (by decide) (by decide)]; exact x1
    · rw [l3 e he (Or.inl h0')]; exact y1
    · rw [o e 32 (by decide) (by decide) (by decide)]; exact x2
    · rw [l1 e 33 (by decide)]; exact y2
    · rw [l1 e 34 (by decide)]; exact y3
