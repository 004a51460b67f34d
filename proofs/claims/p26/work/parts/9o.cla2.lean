/-! ===== the class finds what has to be ===== -/
/-- the values of an element are in their ranges -/
def rng (Y : MM) (e : Nat) : Prop := (∀ p, p < 14 → m_canBe (nI p) (Y e p) = 1 ∨ (p < 3 ∧ Y e p = -2) ∨ (10 ≤ p ∧ Y e p = -1)) ∧ ∀ v, v < 4 → Y e (10 + v) = -1 → Y e (24 + v) = -1
theorem ini_r : ∀ p, p < 14 → m_canBe (nI p) (m_initial (nI p)) = 1 ∨ (p < 3 ∧ m_initial (nI p) = -2) ∨ (10 ≤ p ∧ m_initial (nI p) = -1) := by decide +kernel
theorem cb_m1 : ∀ p, p < 14 → ¬ m_canBe (nI p) (-1) = 1 := by decide +kernel
theorem unY_r {S Y : MM} {n e p : Nat} {wd : Int32} (T : TS S n) (he : e < n) (hp : p < 14) (hq : ∀ q, par S e = some q → rng Y q) : (m_canBe (nI p) (unY S Y e p wd).1 = 1 ∨ (p < 3 ∧ (unY S Y e p wd).1 = -2) ∨ (10 ≤ p ∧ (unY S Y e p wd).1 = -1)) ∧ (10 ≤ p → (unY S Y e p wd).1 = -1 → (unY S Y e p wd).2 = -1) := by
  unfold unY
  by_cases c : wd = 0 ∨ wd = 2 ∧ 8 ≤ p
  · rw [if_pos c]
    cases hpe : par S e with
    | none => exact ⟨ini_r p hp, fun _ _ => rfl⟩
    | some q =>
      obtain ⟨r1, r2⟩ := hq q hpe
      refine ⟨r1 p hp, fun h10 h => ?_⟩
      have := r2 (p - 10) (by omega)
      rw [show 10 + (p - 10) = p by omega, show 24 + (p - 10) = 14 + p by omega] at this
      exact this h
  · rw [if_neg c]
    exact ⟨ini_r p hp, fun _ _ => rfl⟩
theorem tkY_s {S Y : MM} {e p r : Nat} : tkY S Y e p (some r) = if S 20 (14 * r + p) = 1 then (S 21 (14 * r + p), nI r) else if S 20 (14 * r + p) = 2 then unY S Y e p (S 21 (14 * r + p)) else if Y e (10 + tn (S 21 (14 * r + p))) ≠ -1 ∧ m_canBe (nI p) (Y e (10 + tn (S 21 (14 * r + p)))) = 1 then (Y e (10 + tn (S 21 (14 * r + p))), nI r) else if S 22 (14 * r + p) = -1 then unY S Y e p 2 else (S 22 (14 * r + p), nI r) := rfl
theorem tkY_r {S Y : MM} {n R e p : Nat} {o : Option Nat} (T : TS S n) (hD : TDo S R) (he : e < n) (hp : p < 14) (hq : ∀ q, par S e = some q → rng Y q) (ho : ∀ r, o = some r → r < R ∧ S 20 (14 * r + p) ≠ 0) :
    (m_canBe (nI p) (tkY S Y e p o).1 = 1 ∨ (p < 3 ∧ (tkY S Y e p o).1 = -2) ∨ (10 ≤ p ∧ (tkY S Y e p o).1 = -1)) ∧ (10 ≤ p → (tkY S Y e p o).1 = -1 → (tkY S Y e p o).2 = -1) := by
  have hu := fun wd => unY_r (wd := wd) (Y := Y) T he hp hq
  cases o with
  | none => exact hu 2
  | some r =>
    obtain ⟨o1, o2⟩ := ho r rfl
    rw [tkY_s]
    rcases hD r p o1 hp with z | ⟨z, y⟩ | ⟨z, -⟩ | ⟨z, u, u1, u2, u3⟩
    · exact absurd z o2
    · rw [if_pos z]
      rcases y with y | y
      · refine ⟨Or.inl y, fun _ h => ?_⟩
        have h' : S 21 (14 * r + p) = -1 := h
        rw [h'] at y
        exact absurd y (cb_m1 p hp)
      · exact ⟨Or.inr (Or.inl y), fun h10 _ => absurd y.1 (by omega)⟩
    · have n1 : ¬ S 20 (14 * r + p) = 1 := by rw [z]; decide
      rw [if_neg n1, if_pos z]
      exact hu _
    · have n1 : ¬ S 20 (14 * r + p) = 1 := by rw [z]; decide
      have n2 : ¬ S 20 (14 * r + p) = 2 := by rw [z]; decide
      rw [if_neg n1, if_neg n2]
      by_cases c : Y e (10 + tn (S 21 (14 * r + p))) ≠ -1 ∧ m_canBe (nI p) (Y e (10 + tn (S 21 (14 * r + p)))) = 1
      · rw [if_pos c]
        exact ⟨Or.inl c.2, fun _ h => absurd h c.1⟩
      · rw [if_neg c]
        by_cases d : S 22 (14 * r + p) = -1
        · rw [if_pos d]
          exact hu 2
        · rw [if_neg d]
          exact ⟨Or.inl (u3.resolve_left d), fun _ h => absurd h d⟩
theorem LEV_r {S Y : MM} {n R e : Nat} (T : TS S n) (hD : TDo S R) (he : e < n) (hq : ∀ q, par S e = some q → rng Y q) (h : LEV S Y n R e) : rng Y e := by
  obtain ⟨xs, x1, x2, x3, y1, y2⟩ := h
  have ho : ∀ p r, cl S p xs (-1) = some r → r < R ∧ S 20 (14 * r + p) ≠ 0 := fun p r z => by
    have := cl_mem z
    exact ⟨((x1 r).mp this.1).1, this.2⟩
  have hv : ∀ v, v < 4 → (m_canBe (nI (10 + v)) (Y e (10 + v)) = 1 ∨ (10 + v < 3 ∧ Y e (10 + v) = -2) ∨ (10 ≤ 10 + v ∧ Y e (10 + v) = -1)) ∧ (Y e (10 + v) = -1 → Y e (24 + v) = -1) := fun v hv => by
    have e1 := y2 v hv
    by_cases r : rgA (ndS S (fun p => cl S p xs (-1))) v 4 v = true
    · rw [if_pos r] at e1
      have a : Y e (10 + v) = -1 := congrArg Prod.fst e1
      have b : Y e (24 + v) = -1 := congrArg Prod.snd e1
      exact ⟨Or.inr (Or.inr ⟨by omega, a⟩), fun _ => b⟩
    · rw [if_neg r] at e1
      have a : Y e (10 + v) = (tkY S Y e (10 + v) (cl S (10 + v) xs (-1))).1 := congrArg Prod.fst e1
      have b : Y e (24 + v) = (tkY S Y e (10 + v) (cl S (10 + v) xs (-1))).2 := congrArg Prod.snd e1
      obtain ⟨c, d⟩ := tkY_r (Y := Y) (p := 10 + v) T hD he (by omega) hq (ho (10 + v))
      rw [a, b]
      exact ⟨c, d (by omega)⟩
  refine ⟨fun p hp => ?_, fun v hv' => (hv v hv').2⟩
  by_cases h10 : p < 10
  · have a : Y e p = (tkY S Y e p (cl S p xs (-1))).1 := congrArg Prod.fst (y1 p h10)
    rw [a]
    exact (tkY_r (Y := Y) T hD he hp hq (ho p)).1
  · have := (hv (p - 10) (by omega)).1
    rw [show 10 + (p - 10) = p by omega] at this
    exact this
theorem m_in1 {v a b : Int32} : m_in v a b = 1 ↔ a ≤ v ∧ v ≤ b := by
  unfold m_in
  by_cases x : v < a
  · rw [if_pos x]
    exact ⟨fun z => absurd z (by decide), fun z => absurd z.1 (Int32.not_le.mpr x)⟩
  · rw [if_neg x]
    by_cases y : b < v
    · rw [if_pos y]
      exact ⟨fun z => absurd z (by decide), fun z => absurd z.2 (Int32.not_le.mpr y)⟩
    · rw [if_neg y]
      exact ⟨fun _ => ⟨Int32.not_lt.mp x, Int32.not_lt.mp y⟩, fun _ => rfl⟩
/-- what ranges tell -/
theorem rng_x {Y : MM} {e : Nat} (h : rng Y e) : (∃ t, 0 < t ∧ t < 7 ∧ Y e 7 = nI t) ∧ 0 ≤ Y e 3 ∧ (Y e 5 = 0 ∨ Y e 5 = 1 ∨ Y e 5 = 2 ∨ Y e 5 = 3) ∧ 0 ≤ Y e 6 ∧ (Y e 0 = -2 ∨ (0 ≤ Y e 0 ∧ Y e 0 ≤ 2000)) ∧ (Y e 2 = -2 ∨ (0 ≤ Y e 2 ∧ Y e 2 ≤ 2000)) ∧ (0 ≤ Y e 9 ∧ Y e 9 ≤ 20) := by
  have g : ∀ p, 3 ≤ p → p < 10 → m_canBe (nI p) (Y e p) = 1 := fun p h1 h2 => by
    rcases h.1 p (by omega) with z | ⟨z, -⟩ | ⟨z, -⟩
    · exact z
    · omega
    · omega
  have g7 : 1 ≤ Y e 7 ∧ Y e 7 ≤ 6 := m_in1.mp (g 7 (by decide) (by decide))
  have g3 : 0 ≤ Y e 3 ∧ Y e 3 ≤ 100 := m_in1.mp (g 3 (by decide) (by decide))
  have g5 : 0 ≤ Y e 5 ∧ Y e 5 ≤ 3 := m_in1.mp (g 5 (by decide) (by decide))
  have g6 : 0 ≤ Y e 6 ∧ Y e 6 ≤ 9 := m_in1.mp (g 6 (by decide) (by decide))
  have g9 : 1 ≤ Y e 9 ∧ Y e 9 ≤ 20 := m_in1.mp (g 9 (by decide) (by decide))
  have c1 : (1 : Int32).toInt = 1 := rfl
  have c6 : (6 : Int32).toInt = 6 := rfl
  have c0 : (0 : Int32).toInt = 0 := rfl
  have c3 : (3 : Int32).toInt = 3 := rfl
  have c2 : (2 : Int32).toInt = 2 := rfl
  refine ⟨?_, g3.1, ?_, g6.1, ?_, ?_, ⟨?_, g9.2⟩⟩
  · obtain ⟨j, j1, j2⟩ := nI_of (x := Y e 7) (Int32.not_lt.mpr (by rw [i_le] at g7 ⊢; omega))
    rw [i_le, i_le, j2, nI_toInt j1] at g7
    exact ⟨j, by omega, by omega, j2⟩
  · rw [i_le, i_le] at g5
    rw [i_eq, i_eq, i_eq, i_eq]
    omega
  · rcases h.1 0 (by decide) with z | ⟨-, z⟩ | ⟨z, -⟩
    · exact Or.inr (m_in1.mp (show m_in (Y e 0) 0 2000 = 1 from z))
    · exact Or.inl z
    · omega
  · rcases h.1 2 (by decide) with z | ⟨-, z⟩ | ⟨z, -⟩
    · exact Or.inr (m_in1.mp (show m_in (Y e 2) 0 2000 = 1 from z))
    · exact Or.inl z
    · omega
  · rw [i_le] at g9 ⊢
    omega
/-- the values of an element, where what they rest on is the same -/
theorem LEV_f {S Y Y' : MM} {n R e : Nat} (T : TS S n) (hD : TDo S R) (he : e < n) (h1 : ∀ j, j < 28 → Y' e j = Y e j) (h2 : ∀ q, par S e = some q → ∀ j, j < 28 → Y' q j = Y q j) (h3 : ∀ q, nct S 26 (par S e) = some q → Y' q 29 = Y q 29 ∧ Y' q 32 = Y q 32) (h : LEV S Y n R e) : LEV S Y' n R e := by
  obtain ⟨xs, x1, x2, x3, y1, y2⟩ := h
  have ho : ∀ p r, cl S p xs (-1) = some r → r < R ∧ S 20 (14 * r + p) ≠ 0 := fun p r z => by
    have := cl_mem z
    exact ⟨((x1 r).mp this.1).1, this.2⟩
  have ht : ∀ p, p < 14 → tkY S Y' e p (cl S p xs (-1)) = tkY S Y e p (cl S p xs (-1)) := fun p hp => tkY_z hD hp (ho p) (fun q hq => ⟨h2 q hq p (by omega), h2 q hq (14 + p) (by omega)⟩) (fun r u _ _ _ hu => h1 _ (by omega))
  have hw : ∀ q, nct S 26 (par S e) = some q → wdY Y' q = wdY Y q := fun q hq => by
    unfold wdY
    rw [(h3 q hq).1, (h3 q hq).2]
  refine ⟨xs, fun r => ?_, x2, x3, fun p hp => ?_, fun v hv => ?_⟩
  · rw [x1 r]
    have : thY S Y n r e ↔ thY S Y' n r e := by
      unfold thY
      constructor
      · rintro ⟨a, b | ⟨q, b, c⟩⟩
        · exact ⟨a, Or.inl b⟩
        · exact ⟨a, Or.inr ⟨q, b, by rw [hw q b]; exact c⟩⟩
      · rintro ⟨a, b | ⟨q, b, c⟩⟩
        · exact ⟨a, Or.inl b⟩
        · exact ⟨a, Or.inr ⟨q, b, by rw [← hw q b]; exact c⟩⟩
    rw [this]
  · rw [h1 p (by omega), h1 (14 + p) (by omega), ht p (by omega)]
    exact y1 p hp
  · rw [h1 (10 + v) (by omega), h1 (24 + v) (by omega), ht (10 + v) (by omega)]
    exact y2 v hv
/-- widths and lefts, where p and its children are the same -/
theorem LEW_f {S Y Y' : MM} {n p : Nat} (h1 : ∀ j, j ≤ 32 → j ≠ 31 → Y' p j = Y p j) (h2 : ∀ c, c ∈ chl S n p → ∀ j, j ≤ 32 → Y' c j = Y c j ∨ j = 31) (h : LEW S Y n p) : LEW S Y' n p := by
  intro hb
  have hb' : Y p 29 ≠ 0 := by rw [← h1 29 (by decide) (by decide)]; exact hb
  obtain ⟨k1, k2, k3⟩ := h hb'
  have hc : ∀ c, c ∈ chl S n p → ∀ j, j ≤ 32 → j ≠ 31 → Y' c j = Y c j := fun c hc j hj hn => (h2 c hc j hj).resolve_right hn
  have ek : kdk S Y' p n = kdk S Y p n := by
    rw [kdk_bx, kdk_bx]
    exact bx_c (fun c hcc => hc c hcc 29 (by decide) (by decide))
  have hkc : ∀ c, c ∈ kdk S Y p n → c ∈ chl S n p := fun c hcc => chl_m.mpr ⟨(kdk_m.mp hcc).1, (kdk_m.mp hcc).2.1⟩
  have ow : ∀ c, c ∈ chl S n p → ∀ a, owY Y' c a = owY Y c a := fun c hcc a => by
    unfold owY
    rw [hc c hcc 2 (by decide) (by decide), hc c hcc 0 (by decide) (by decide)]
  rw [h1 5 (by decide) (by decide)]
  refine ⟨fun d c hcb => ?_, fun d k c t hk ht h0 h7 => ?_, fun d1 d2 c hcb => ?_⟩
  · rw [ek] at hcb ⊢
    obtain ⟨x, y⟩ := k1 d c hcb
    rw [hc c (hkc c hcb) 32 (by decide) (by decide), hc c (hkc c hcb) 30 (by decide) (by decide), h1 32 (by decide) (by decide), h1 30 (by decide) (by decide), x, y]
    refine ⟨(shF_c (fun d hd => ?_) (fun d hd => ?_) 25 _ _ _ _ (fun d hd => ?_) (fun _ _ => rfl) c hcb), (rwL_c _ _ _ (fun d hd => ?_))⟩
    · exact (hc d (hkc d hd) 6 (by decide) (by decide)).symm
    · exact (hc d (hkc d hd) 2 (by decide) (by decide)).symm
    · show owY Y d (auY S Y d) = owY Y' d (auY S Y' d)
      rw [ow d (hkc d hd)]
      unfold auY
      rw [hc d (hkc d hd) 9 (by decide) (by decide)]
    · exact (hc d (hkc d hd) 32 (by decide) (by decide)).symm
  · rw [ek] at hk
    rw [h1 7 (by decide) (by decide)] at ht
    have hcb := hkc c (List.mem_of_getElem? hk)
    rw [hc c hcb 32 (by decide) (by decide), hc c hcb 30 (by decide) (by decide), h1 32 (by decide) (by decide), h1 30 (by decide) (by decide)]
    exact k2 d k c t hk ht h0 h7
  · rw [ek] at hcb
    rw [hc c (hkc c hcb) 32 (by decide) (by decide), hc c (hkc c hcb) 30 (by decide) (by decide), h1 32 (by decide) (by decide), h1 30 (by decide) (by decide), ow c (hkc c hcb)]
    exact k3 d1 d2 c hcb
