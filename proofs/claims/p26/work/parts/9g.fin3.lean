/-! ===== the model's functions: finds, heights level by level ===== -/
def GH (S Y : MM) (e : Nat) : Prop := Y e 29 ≠ 0 → S 25 (4 * e + 3) = Y e 33 ∧ S 26 e = Y e 34
def GPo (S Y : MM) (e p : Nat) : Prop := S 25 (4 * e) + Y p 30 = Y e 30 ∧ S 25 (4 * e + 1) + Y p 31 = Y e 31
/-- what the heights leave as it is -/
def FH (S S' : MM) : Prop := ∀ k, k ≠ 25 → k ≠ 26 → S' k = S k
theorem FH_TG {S S' : MM} (a : FH S S') : TG S S' := fun k _ h => a k (by omega) (by omega)
theorem sh_5 {S Y : MM} {n e : Nat} (h : TS S n) (hB : LEB S Y n) (he : e < n) (hb : Y e 29 ≠ 0) : Y e 5 ≠ 3 := fun z => hb (by
  by_cases e0 : e = 0
  · subst e0
    rw [hB.1, if_pos z]
  · obtain ⟨q, q1, q2, q3⟩ := par_s h (by omega) he
    rw [hB.2 e q he q3]
    by_cases y : Y q 29 = 0
    · rw [if_pos y]
    · rw [if_neg y, if_pos z])
theorem rem_p {w : Int32} {t : Nat} (h : 0 ≤ w) (ht : 0 < t) (h7 : t < 7) : ¬ w - w / nI t * nI t < 0 := by
  obtain ⟨j, j1, j2⟩ := nI_of (x := w) (Int32.not_lt.mpr h)
  rw [j2, show nI j - nI j / nI t * nI t = nI (j % t) from pk_rem j1 ht (by omega)]
  have := Nat.mod_lt j ht
  exact nI_pos (by omega)
theorem finds221 {S0 S Y : MM} {n R L : Nat} (T : TOLD S0 n R) (hY : LE S0 Y n R) (hV : VR Y n) (hS : ∀ k, k ≤ 22 ∨ 29 ≤ k ∧ k ≤ 33 → S k = S0 k) (h27 : ∀ e, e < n → S 27 e = nI (dp S0 e)) (hL : L ≤ 23) (hG : ∀ e, e < n → GV S Y e ∧ GW S Y e)
    (hH : ∀ e, e < n → L < dp S0 e → GH S Y e) (hP : ∀ e p, e < n → par S0 e = some p → Y e 29 ≠ 0 → L < dp S0 p → GPo S Y e p) :
    ∃ S' : MM, (FH S S' ∧ (∀ e, e < n → Y e 29 ≠ 0 → S' 25 (4 * e + 2) = Y e 32) ∧ (∀ e, e < n → L ≤ dp S0 e → GH S' Y e) ∧ (∀ e p, e < n → par S0 e = some p → Y e 29 ≠ 0 → L ≤ dp S0 p → GPo S' Y e p)) ∧ ∀ K, m_finds_221 K (nI L) 1000 0 S = K S' := by
  obtain ⟨h, hT, hD, hW⟩ := T
  have h24 := h.2.2.1
  have g0 : TG S0 S := fun k _ hk => hS k (Or.inl hk)
  obtain ⟨s, ⟨i1, i2, i3, i4⟩, e⟩ := lp_0 (σ := MM) (α := Option MM) (L := fun K fu k s => m_finds_221 K (nI L) fu (nI k) s) (n := n)
    (Inv := fun k s => FH S s ∧ (∀ e, e < n → Y e 29 ≠ 0 → s 25 (4 * e + 2) = Y e 32) ∧ (∀ e, e < n → L < dp S0 e ∨ (e < k ∧ dp S0 e = L) → GH s Y e) ∧ ∀ e p, e < n → par S0 e = some p → Y e 29 ≠ 0 → L < dp S0 p ∨ (p < k ∧ dp S0 p = L) → GPo s Y e p)
    (fun K fu s hi => by
      show m_finds_221 K (nI L) (fu + 1) (nI n) s = K s
      rw [m_finds_221, hi.1 3 (by decide) (by decide), hS 3 (by decide), h.1, if_pos (Int32.le_refl _)])
    (fun fu k s hk hi => by
      obtain ⟨i1, i2, i3, i4⟩ := hi
      have g : TG S0 s := TG_t g0 (FH_TG i1)
      have k24 : k < 24 := by omega
      have hd := dp_le h k hk
      have h27k : s 27 k = nI (dp S0 k) := by rw [i1 27 (by decide) (by decide)]; exact h27 k hk
      have h3 : s 3 0 = nI n := by rw [i1 3 (by decide) (by decide), hS 3 (by decide)]; exact h.1
      have h28k : ∀ c, c < n → s 28 c = Y c 29 := fun c hc => by rw [i1 28 (by decide) (by decide)]; exact (hG c hc).2.1
      by_cases q : dp S0 k = L
      · by_cases b : Y k 29 = 0
        · refine ⟨s, ⟨i1, i2, fun e he hde => ?_, fun e p he hep hb hde => ?_⟩, fun K => ?_⟩
          · by_cases z : e = k
            · rw [z]
              exact fun y => absurd b y
            · exact i3 e he (hde.imp id (fun y => ⟨by omega, y.2⟩))
          · have z : p ≠ k := fun z => by
              rw [hY.2.1.2 e p he hep, z, if_pos b] at hb
              exact hb rfl
            exact i4 e p he hep hb (hde.imp id (fun y => ⟨by omega, y.2⟩))
          · show m_finds_221 K (nI L) (fu + 1) (nI k) s = m_finds_221 K (nI L) fu (nI (k + 1)) s
            rw [m_finds_221, h3, if_neg (nI_ge hk (by omega)), if_pos (ix_nI k24 (by omega)), tn_nI (by omega), h27k, if_pos (by rw [q]), if_pos (by rw [h28k k hk]; exact b), nI_1]
        · obtain ⟨t, t0, t7, ht⟩ := (hV k hk).2.1
          have hkc : kdk s Y k n = kdk S0 Y k n := kdk_c g k n
          obtain ⟨s', u1, u2, u3, u4, u5, u6, u7⟩ := findsHeight_s (S := s) (Y := Y) (TS_c g h) hk (WDo_c g hW) (LEW_c g (hY.2.2.2.1 k hk)) (LEH_c g (hY.2.2.2.2 k hk)) b (fun p hp => by rw [i1 23 (by decide) (by decide)]; exact ((hG k hk).1 p hp).1) (i2 k hk b)
            (fun c hc _ => h28k c hc) (fun c hc => by
              rw [hkc] at hc
              obtain ⟨c1, c2, c3⟩ := kdk_m.mp hc
              have := dp_p h c1 c2
              refine ⟨by rw [i1 23 (by decide) (by decide)]; exact ((hG c c1).1 3 (by decide)).1, by rw [i1 23 (by decide) (by decide)]; exact ((hG c c1).1 4 (by decide)).1, i2 c c1 c3, (i3 c c1 (Or.inl (by omega)) c3).1⟩) (fun c hc => by
              rw [hkc] at hc
              exact (hV c (kdk_m.mp hc).1).2.2.1) ht t0 t7 (by
              rcases (hV k hk).2.2.2.1 with z | z | z | z
              · exact Or.inl z
              · exact Or.inr (Or.inl z)
              · exact Or.inr (Or.inr z)
              · exact absurd z (sh_5 h hY.2.1 hk b)) (rem_p ((hV k hk).2.2.2.2 b) t0 t7)
          rw [hkc] at u4 u6
          have kid : ∀ c, c ∈ kdk S0 Y k n → par S0 c = some k := fun c hc => (kdk_m.mp hc).2.1
          refine ⟨s', ⟨fun j x y => (u7 j x y).trans (i1 j x y), fun e he hb => ?_, fun e he hde => ?_, fun e p he hep hb hde => ?_⟩, fun K => ?_⟩
          · rw [u6 (4 * e + 2) (by omega) (fun c _ => ⟨by omega, by omega⟩)]
            exact i2 e he hb
          · by_cases z : e = k
            · rw [z]
              exact fun _ => ⟨u2, u3⟩
            · intro y
              have := i3 e he (hde.imp id (fun y => ⟨by omega, y.2⟩)) y
              rw [u6 (4 * e + 3) (by omega) (fun c _ => ⟨by omega, by omega⟩), u5 e z]
              exact this
          · by_cases z : p = k
            · subst z
              exact u4 e (kdk_m.mpr ⟨he, hep, hb⟩)
            · have := i4 e p he hep hb (hde.imp id (fun y => ⟨by omega, y.2⟩))
              have ne : ∀ c, c ∈ kdk S0 Y k n → e ≠ c := fun c hc y => by
                have := kid c hc
                rw [← y, hep] at this
                exact z (Option.some.inj this)
              unfold GPo
              rw [u6 (4 * e) (by omega) (fun c hc => ⟨fun y => ne c hc (by omega), by omega⟩), u6 (4 * e + 1) (by omega) (fun c hc => ⟨by omega, fun y => ne c hc (by omega)⟩)]
              exact this
          · show m_finds_221 K (nI L) (fu + 1) (nI k) s = m_finds_221 K (nI L) fu (nI (k + 1)) s'
            rw [m_finds_221, h3, if_neg (nI_ge hk (by omega)), if_pos (ix_nI k24 (by omega)), tn_nI (by omega), h27k, if_pos (by rw [q]), if_neg (by rw [h28k k hk]; exact b), u1, bd_s, nI_1]
      · refine ⟨s, ⟨i1, i2, fun e he hde => i3 e he (hde.imp id (fun y => ⟨?_, y.2⟩)), fun e p he hep hb hde => i4 e p he hep hb (hde.imp id (fun y => ⟨?_, y.2⟩))⟩, fun K => ?_⟩
        · have z : e ≠ k := fun z => q (by rw [← z]; exact y.2)
          omega
        · have z : p ≠ k := fun z => q (by rw [← z]; exact y.2)
          omega
        · show m_finds_221 K (nI L) (fu + 1) (nI k) s = m_finds_221 K (nI L) fu (nI (k + 1)) s
          rw [m_finds_221, h3, if_neg (nI_ge hk (by omega)), if_pos (ix_nI k24 (by omega)), tn_nI (by omega), h27k, if_neg (fun z => q ((nI_eq (by omega) (by omega)).mp z)), nI_1])
    (fu := 1000) (s := S) (by omega) ⟨fun _ _ _ => rfl, fun e he hb => (hG e he).2.2 hb, fun e he hde => hH e he (hde.resolve_right (fun z => absurd z.1 (Nat.not_lt_zero e))), fun e p he hep hb hde => hP e p he hep hb (hde.resolve_right (fun z => absurd z.1 (Nat.not_lt_zero p)))⟩
  rw [nI_0] at e
  refine ⟨s, ⟨i1, i2, fun e he hde => i3 e he ?_, fun e p he hep hb hde => i4 e p he hep hb ?_⟩, e⟩
  · by_cases z : dp S0 e = L
    · exact Or.inr ⟨he, z⟩
    · exact Or.inl (by omega)
  · by_cases z : dp S0 p = L
    · exact Or.inr ⟨((par_S h he).2 p hep).2, z⟩
    · exact Or.inl (by omega)
theorem finds215 {S0 Y : MM} {n R : Nat} (T : TOLD S0 n R) (hY : LE S0 Y n R) (hV : VR Y n) : ∀ (L : Nat) (S : MM) (fu : Nat), L ≤ 23 → L + 2 ≤ fu → (∀ k, k ≤ 22 ∨ 29 ≤ k ∧ k ≤ 33 → S k = S0 k) → (∀ e, e < n → S 27 e = nI (dp S0 e)) → (∀ e, e < n → GV S Y e ∧ GW S Y e) →
    (∀ e, e < n → L < dp S0 e → GH S Y e) → (∀ e p, e < n → par S0 e = some p → Y e 29 ≠ 0 → L < dp S0 p → GPo S Y e p) →
    ∃ S' : MM, (FH S S' ∧ (∀ e, e < n → Y e 29 ≠ 0 → S' 25 (4 * e + 2) = Y e 32) ∧ (∀ e, e < n → GH S' Y e) ∧ (∀ e p, e < n → par S0 e = some p → Y e 29 ≠ 0 → GPo S' Y e p)) ∧ ∀ K, m_finds_215 K fu (nI L) S = K S' := by
  have em1 : ∀ L : Nat, nI (L + 1) + Int32.ofInt (-1) = nI L := fun L => by
    have := sb_m1 (p := L + 1) (by omega)
    exact this
  intro L
  induction L with
  | zero =>
    intro S fu hL hf hS h27 hG hH hP
    obtain ⟨fu, rfl⟩ : ∃ z, fu = z + 2 := ⟨fu - 2, by omega⟩
    obtain ⟨S1, ⟨a1, a2, a3, a4⟩, e1⟩ := finds221 T hY hV hS h27 hL hG hH hP
    refine ⟨S1, ⟨a1, a2, fun e he => a3 e he (Nat.zero_le _), fun e p he hep hb => a4 e p he hep hb (Nat.zero_le _)⟩, fun K => ?_⟩
    rw [m_finds_215, if_neg (by decide), e1, m_finds_215, if_pos (by decide)]
  | succ L ih =>
    intro S fu hL hf hS h27 hG hH hP
    obtain ⟨fu, rfl⟩ : ∃ z, fu = z + 1 := ⟨fu - 1, by omega⟩
    obtain ⟨S1, ⟨a1, a2, a3, a4⟩, e1⟩ := finds221 T hY hV hS h27 hL hG hH hP
    obtain ⟨S2, ⟨b1, b2, b3, b4⟩, e2⟩ := ih S1 fu (by omega) (by omega) (fun k hk => (a1 k (by omega) (by omega)).trans (hS k hk)) (fun e he => by rw [a1 27 (by decide) (by decide)]; exact h27 e he) (fun e he => by
      obtain ⟨g1, g2, g3⟩ := hG e he
      refine ⟨fun p hp => ?_, ?_, fun hb => a2 e he hb⟩
      · rw [a1 23 (by decide) (by decide), a1 24 (by decide) (by decide)]
        exact g1 p hp
      · rw [a1 28 (by decide) (by decide)]
        exact g2) (fun e he hde => a3 e he (by omega)) (fun e p he hep hb hde => a4 e p he hep hb (by omega))
    refine ⟨S2, ⟨fun k x y => (b1 k x y).trans (a1 k x y), b2, b3, b4⟩, fun K => ?_⟩
    rw [m_finds_215, if_neg (nI_pos (by omega)), e1, em1, e2]
/-! ===== the places ===== -/
theorem finds362 {S : MM} {k : Nat} (hk : k < 24) : (S 28 k ≠ 0 → ∀ K, m_finds_362 K (nI k) 1000 0 S = K S) ∧ (S 28 k = 0 → ∃ S' : MM, ((∀ i, i < 4 → S' 25 (4 * k + i) = -1) ∧ S' 26 k = 0 ∧ (∀ j, (∀ i, i < 4 → j ≠ 4 * k + i) → S' 25 j = S 25 j) ∧ (∀ j, j ≠ k → S' 26 j = S 26 j) ∧ FH S S') ∧ ∀ K, m_finds_362 K (nI k) 1000 0 S = K S') := by
  refine ⟨fun h0 K => ?_, fun h0 => ?_⟩
  · rw [m_finds_362, if_neg (by decide), if_pos (ix_nI hk (by omega)), tn_nI (by omega), if_neg h0]
  · obtain ⟨s, ⟨i1, i2, i3, i4, i5⟩, e⟩ := lp_0 (σ := MM) (α := Option MM) (L := fun K fu j s => m_finds_362 K (nI k) fu (nI j) s) (n := 4)
      (Inv := fun m s => (∀ i, i < m → s 25 (4 * k + i) = -1) ∧ (0 < m → s 26 k = 0) ∧ (∀ j, (∀ i, i < 4 → j ≠ 4 * k + i) → s 25 j = S 25 j) ∧ (∀ j, j ≠ k → s 26 j = S 26 j) ∧ FH S s)
      (fun K fu s hi => by
        show m_finds_362 K (nI k) (fu + 1) (nI 4) s = K s
        rw [m_finds_362, if_pos (by decide)])
      (fun fu m s hm hi => by
        obtain ⟨i1, i2, i3, i4, i5⟩ := hi
        refine ⟨u2 (u2 s 25 (4 * k + m) (-1)) 26 k 0, ⟨fun i hi => ?_, fun _ => u2_self _ _ _ _, fun j hj => ?_, fun j hj => ?_, fun j x y => ?_⟩, fun K => ?_⟩
        · rw [u2_row (by decide)]
          by_cases q : i = m
          · rw [q, u2_self]
          · rw [u2_ne (by omega)]
            exact i1 i (by omega)
        · rw [u2_row (by decide), u2_ne (fun z => hj m hm z.2)]
          exact i3 j hj
        · rw [u2_ne (fun z => hj z.2), u2_row (by decide)]
          exact i4 j hj
        · funext a
          rw [u2_row y, u2_row x, i5 j x y]
        · show m_finds_362 K (nI k) (fu + 1) (nI m) s = m_finds_362 K (nI k) fu (nI (m + 1)) (u2 (u2 s 25 (4 * k + m) (-1)) 26 k 0)
          rw [m_finds_362, if_neg (n4 hm), if_pos (ix_nI hk (by omega)), tn_nI (show k < 2 ^ 31 by omega), i5 28 (by decide) (by decide), if_pos h0, nx4, nI_add, if_pos (ix_nI (by omega) (by omega)), tn_nI (by omega), bnd_s, bnd_s, nI_1])
      (fu := 1000) (s := S) (by omega) ⟨fun i hi => absurd hi (Nat.not_lt_zero i), fun z => absurd z (Nat.lt_irrefl 0), fun _ _ => rfl, fun _ _ => rfl, fun _ _ _ => rfl⟩
    rw [nI_0] at e
    exact ⟨s, ⟨i1, i2 (by decide), i3, i4, i5⟩, e⟩
/-- what is found of an element at the end -/
def GE (S Y : MM) (e : Nat) : Prop := (∀ i, i < 4 → S 25 (4 * e + i) = if Y e 29 = 0 then -1 else Y e (30 + i)) ∧ S 26 e = if Y e 29 = 0 then 0 else Y e 34
theorem finds281 {S0 S Y : MM} {n R : Nat} (T : TOLD S0 n R) (hY : LE S0 Y n R) (hS : ∀ k, k ≤ 22 ∨ 29 ≤ k ∧ k ≤ 33 → S k = S0 k) (h28 : ∀ e, e < n → S 28 e = Y e 29) (hw : ∀ e, e < n → Y e 29 ≠ 0 → S 25 (4 * e + 2) = Y e 32) (hH : ∀ e, e < n → GH S Y e)
    (hP : ∀ e p, e < n → par S0 e = some p → Y e 29 ≠ 0 → GPo S Y e p) (h0 : S 25 0 = 0 ∧ S 25 1 = 0) : ∃ S' : MM, m_finds_281 1000 0 S = some S' ∧ (∀ e, e < n → GE S' Y e) ∧ FH S S' := by
  obtain ⟨h, hT, hD, hW⟩ := T
  have h24 := h.2.2.1
  obtain ⟨s, ⟨i1, i2, i3⟩, e⟩ := lp_0 (σ := MM) (α := Option MM) (L := fun K fu k s => (m_finds_281 fu (nI k) s).bind K) (n := n)
    (Inv := fun k s => FH S s ∧ (∀ e, e < k → GE s Y e) ∧ ∀ e, e < n → k ≤ e → (∀ i, i < 4 → s 25 (4 * e + i) = S 25 (4 * e + i)) ∧ s 26 e = S 26 e)
    (fun K fu s hi => by
      show (m_finds_281 (fu + 1) (nI n) s).bind K = K s
      rw [m_finds_281, hi.1 3 (by decide) (by decide), hS 3 (by decide), h.1, if_pos (Int32.le_refl _)]
      rfl)
    (fun fu k s hk hi => by
      obtain ⟨i1, i2, i3⟩ := hi
      have k24 : k < 24 := by omega
      have h3 : s 3 0 = nI n := by rw [i1 3 (by decide) (by decide), hS 3 (by decide)]; exact h.1
      have h28k : s 28 k = Y k 29 := by rw [i1 28 (by decide) (by decide)]; exact h28 k hk
      have h5 : s 5 k = S0 5 k := by rw [i1 5 (by decide) (by decide), hS 5 (by decide)]
      obtain ⟨p1, p2⟩ := par_S h hk
      by_cases b : Y k 29 = 0
      · obtain ⟨s', ⟨a1, a2, a3, a4, a5⟩, e1⟩ := (finds362 (S := s) k24).2 (by rw [h28k]; exact b)
        refine ⟨s', ⟨fun j x y => (a5 j x y).trans (i1 j x y), fun e he => ?_, fun e he hke => ?_⟩, fun K => ?_⟩
        · by_cases z : e = k
          · rw [z]
            refine ⟨fun i hi => ?_, ?_⟩
            · rw [a1 i hi, if_pos b]
            · rw [a2, if_pos b]
          · obtain ⟨x, y⟩ := i2 e (by omega)
            refine ⟨fun i hi => ?_, ?_⟩
            · rw [a3 (4 * e + i) (fun m hm => by omega)]
              exact x i hi
            · rw [a4 e z]
              exact y
        · obtain ⟨x, y⟩ := i3 e he (by omega)
          refine ⟨fun i hi => ?_, ?_⟩
          · rw [a3 (4 * e + i) (fun m hm => by omega)]
            exact x i hi
          · rw [a4 e (by omega)]
            exact y
        · show (m_finds_281 (fu + 1) (nI k) s).bind K = (m_finds_281 fu (nI (k + 1)) s').bind K
          rw [m_finds_281, h3, if_neg (nI_ge hk (by omega)), if_pos (ix_nI k24 (by omega)), tn_nI (by omega), h28k, if_pos b, e1, nI_1]
      · obtain ⟨x0, y0⟩ := i3 k hk (Nat.le_refl _)
        obtain ⟨hH1, hH2⟩ := hH k hk b
        have fin : ∀ s' : MM, FH s s' → s' 25 (4 * k) = Y k 30 → s' 25 (4 * k + 1) = Y k 31 → (∀ j, j ≠ 4 * k → j ≠ 4 * k + 1 → s' 25 j = s 25 j) → s' 26 = s 26 →
            (FH S s' ∧ (∀ e, e < k + 1 → GE s' Y e) ∧ ∀ e, e < n → k + 1 ≤ e → (∀ i, i < 4 → s' 25 (4 * e + i) = S 25 (4 * e + i)) ∧ s' 26 e = S 26 e) := by
          intro s' f1 f2 f3 f4 f5
          refine ⟨fun j x y => (f1 j x y).trans (i1 j x y), fun e he => ?_, fun e he hke => ?_⟩
          · by_cases z : e = k
            · rw [z]
              refine ⟨fun i hi => ?_, ?_⟩
              · rw [if_neg b]
                have : i = 0 ∨ i = 1 ∨ i = 2 ∨ i = 3 := by omega
                rcases this with rfl | rfl | rfl | rfl
                · exact f2
                · exact f3
                · rw [f4 _ (by omega) (by omega), x0 2 (by decide)]
                  exact hw k hk b
                · rw [f4 _ (by omega) (by omega), x0 3 (by decide)]
                  exact hH1
              · rw [if_neg b, f5, y0]
                exact hH2
            · obtain ⟨x, y⟩ := i2 e (by omega)
              refine ⟨fun i hi => ?_, ?_⟩
              · rw [f4 _ (by omega) (by omega)]
                exact x i hi
              · rw [f5]
                exact y
          · obtain ⟨x, y⟩ := i3 e he (by omega)
            refine ⟨fun i hi => ?_, ?_⟩
            · rw [f4 _ (by omega) (by omega)]
              exact x i hi
            · rw [f5]
              exact y
        cases hpe : par S0 k with
        | none =>
          have k0 : k = 0 := by
            rcases Nat.eq_zero_or_pos k with z | z
            · exact z
            · obtain ⟨q, q1, q2, q3⟩ := par_s h z hk
              rw [q3] at hpe
              cases hpe
          subst k0
          have hr := hY.2.2.1 b
          have e1 := (finds362 (S := s) k24).1 (by rw [h28k]; exact b)
          have hz0 : s 25 0 = S 25 0 := x0 0 (by decide)
          have hz1 : s 25 1 = S 25 1 := x0 1 (by decide)
          refine ⟨s, fin s (fun _ _ _ => rfl) ?_ ?_ (fun _ _ _ => rfl) rfl, fun K => ?_⟩
          · show s 25 0 = _
            rw [hz0, h0.1, hr.2.1]
          · show s 25 1 = _
            rw [hz1, h0.2, hr.2.2]
          · show (m_finds_281 (fu + 1) (nI 0) s).bind K = (m_finds_281 fu (nI (0 + 1)) s).bind K
            rw [m_finds_281, h3, if_neg (nI_ge hk (by omega)), if_pos (ix_nI k24 (by omega)), tn_nI (by omega), h28k, if_neg b, h5, p1, hpe, if_pos (show eo none = -1 from rfl), e1, nI_1]
        | some p =>
          obtain ⟨q1, q2⟩ := p2 p hpe
          obtain ⟨v1, v2⟩ := hP k p hk hpe b
          have hbp : Y p 29 ≠ 0 := fun z => b (by rw [hY.2.1.2 k p hk hpe, if_pos z])
          obtain ⟨w1, -⟩ := i2 p q1
          have w10 := w1 0 (by decide)
          have w11 := w1 1 (by decide)
          rw [if_neg hbp] at w10 w11
          have z0 := x0 0 (by decide)
          have z1 := x0 1 (by decide)
          have w10' : s 25 (4 * p) = Y p 30 := w10
          have z0' : s 25 (4 * k) = S 25 (4 * k) := z0
          obtain ⟨s', es'⟩ : ∃ s' : MM, s' = u2 (u2 s 25 (4 * k) (Y k 30)) 25 (4 * k + 1) (Y k 31) := ⟨_, rfl⟩
          have e1 := (finds362 (S := s') k24).1 (by rw [es', u2_row (by decide), u2_row (by decide), h28k]; exact b)
          refine ⟨s', fin s' (fun j x y => ?_) ?_ ?_ (fun j x y => ?_) ?_, fun K => ?_⟩
          · funext a
            rw [es', u2_row x, u2_row x]
          · rw [es', u2_ne (by omega), u2_self]
          · rw [es', u2_self]
          · rw [es', u2_ne (fun z => y z.2), u2_ne (fun z => x z.2)]
          · funext a
            rw [es', u2_row (by decide), u2_row (by decide)]
          · show (m_finds_281 (fu + 1) (nI k) s).bind K = (m_finds_281 fu (nI (k + 1)) s').bind K
            have z1' : s 25 (4 * k + 1) = S 25 (4 * k + 1) := z1
            have w11' : s 25 (4 * p + 1) = Y p 31 := w11
            rw [m_finds_281, h3, if_neg (nI_ge hk (by omega)), if_pos (ix_nI k24 (by omega)), tn_nI (show k < 2 ^ 31 by omega), h28k, if_neg b, h5, p1, hpe, if_neg (show ¬ eo (some p) = -1 from nI_ne1 (by omega)), show eo (some p) = nI p from rfl, nx4, nx4, if_pos (ix_nI (by omega) (by omega)), if_pos (ix_nI (by omega) (by omega)), tn_nI (show 4 * k < 2 ^ 31 by omega), tn_nI (show 4 * p < 2 ^ 31 by omega), z0', w10', v1, bnd_s, nI_1, if_pos (ix_nI (by omega) (by omega)), u2_row (by decide), h5, p1, hpe, show eo (some p) = nI p from rfl, nx4, nI_1, if_pos (ix_nI (by omega) (by omega)), tn_nI (show 4 * k + 1 < 2 ^ 31 by omega), tn_nI (show 4 * p + 1 < 2 ^ 31 by omega), u2_ne (by omega), u2_ne (by omega), z1', w11', v2, bnd_s, ← es', e1, nI_1])
    (fu := 1000) (s := S) (by omega) ⟨fun _ _ _ => rfl, fun e he => absurd he (Nat.not_lt_zero e), fun _ _ _ => ⟨fun _ _ => rfl, rfl⟩⟩
  have e6 := e some
  rw [nI_0] at e6
  exact ⟨s, bind_so e6, i2, i1⟩
/-- the model finds what the table tells -/
theorem finds_s {S Y : MM} {n R : Nat} (T : TOLD S n R) (hY : LE S Y n R) (hV : VR Y n) : ∃ S' : MM, m_finds S = some S' ∧ (∀ e, e < n → GV S' Y e ∧ GE S' Y e) ∧ ∀ k, k ≤ 22 ∨ 29 ≤ k ∧ k ≤ 33 → S' k = S k := by
  obtain ⟨M, S1, ⟨a1, a2, a3, a4⟩, e1⟩ := finds4 T.1
  obtain ⟨S2, ⟨b1, b2, b3⟩, e2⟩ := finds74 T hY hV (Or.inr a4) a3 a1 a2
  obtain ⟨S3, ⟨c1, c2, c3, c4⟩, e3⟩ := finds215 T hY hV M S2 1000 a1 (by omega) b1 b2 b3 (fun e he hde => absurd (a2 e he) (by omega)) (fun e p he hep _ hde => absurd (a2 p ((par_S T.1 he).2 p hep).2) (by omega))
  obtain ⟨S4, es4⟩ : ∃ S4 : MM, S4 = u2 (u2 S3 25 0 0) 25 1 0 := ⟨_, rfl⟩
  have s4o : ∀ j, j ≠ 25 → S4 j = S3 j := fun j hj => by
    funext a
    rw [es4, u2_row hj, u2_row hj]
  have s4b : ∀ j, 2 ≤ j → S4 25 j = S3 25 j := fun j hj => by rw [es4, u2_ne (by omega), u2_ne (by omega)]
  have hn := T.1.2.1
  obtain ⟨S5, f1, f2, f3⟩ := finds281 (S := S4) T hY (fun k hk => (s4o k (by omega)).trans ((c1 k (by omega) (by omega)).trans (b1 k hk))) (fun e he => by
    rw [s4o 28 (by decide), c1 28 (by decide) (by decide)]
    exact (b3 e he).2.1) (fun e he hb => by
    rw [s4b _ (by omega)]
    exact c2 e he hb) (fun e he hb => by
    rw [s4b _ (by omega), s4o 26 (by decide)]
    exact c3 e he hb) (fun e p he hep hb => by
    have h1 := ((par_S T.1 he).2 p hep).1
    unfold GPo
    rw [s4b _ (by omega), s4b _ (by omega)]
    exact c4 e p he hep hb) ⟨by rw [es4, u2_ne (by omega), u2_self], by rw [es4, u2_self]⟩
  refine ⟨S5, ?_, fun e he => ⟨fun p hp => ?_, f2 e he⟩, fun k hk => ?_⟩
  · unfold m_finds
    have x0 : ix (0 : Int32) 96 := ix_nI (a := 0) (by decide) (by decide)
    rw [e1, e2, e3, if_pos x0]
    have t0 : tn (0 : Int32) = 0 := tn_nI (a := 0) (by decide)
    have t1 : tn (1 : Int32) = 1 := tn_nI (a := 1) (by decide)
    have x1 : ix (1 : Int32) 96 := ix_nI (a := 1) (by decide) (by decide)
    rw [t0, bnd_s, if_pos x1, t1, bnd_s, ← es4]
    exact f1
  · rw [f3 23 (by decide) (by decide), f3 24 (by decide) (by decide), s4o 23 (by decide), s4o 24 (by decide), c1 23 (by decide) (by decide), c1 24 (by decide) (by decide)]
    exact (b3 e he).1 p hp
  · exact (f3 k (by omega) (by omega)).trans ((s4o k (by omega)).trans ((c1 k (by omega) (by omega)).trans (b1 k hk)))
