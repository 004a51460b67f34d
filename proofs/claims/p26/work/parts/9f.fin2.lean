/-! ===== the model's functions: finds, the levels ===== -/
theorem kdk_c {S S' Y : MM} (g : TG S S') (p k : Nat) : kdk S' Y p k = kdk S Y p k := by
  unfold kdk
  rw [par_c g]
theorem LEB_c {S S' Y : MM} {n : Nat} (g : TG S S') (h : LEB S Y n) : LEB S' Y n := by
  unfold LEB at *
  rw [par_c g]
  exact h
theorem LEW_c {S S' Y : MM} {n p : Nat} (g : TG S S') (h : LEW S Y n p) : LEW S' Y n p := by
  unfold LEW auY at *
  rw [kdk_c g, g 9 (by decide) (by decide), g 8 (by decide) (by decide)]
  exact h
theorem LEH_c {S S' Y : MM} {n p : Nat} (g : TG S S') (h : LEH S Y n p) : LEH S' Y n p := by
  unfold LEH at *
  rw [kdk_c g, g 8 (by decide) (by decide)]
  exact h
theorem WDo_c {S S' : MM} {n : Nat} (g : TG S S') (h : WDo S n) : WDo S' n := by
  unfold WDo at *
  rw [g 8 (by decide) (by decide)]
  exact h
theorem finds172 {S0 S Y : MM} {n R L : Nat} (T : TOLD S0 n R) (hY : LE S0 Y n R) (hV : VR Y n) (hS : FM S0 S) (h27 : ∀ e, e < n → S 27 e = nI (dp S0 e)) (hL : L ≤ 23) (hp : ∀ e, e < n → dp S0 e < L → GV S Y e ∧ GW S Y e) (hq : ∀ e, e < n → dp S0 e = L → GV S Y e) (h0 : L = 0 → GW S Y 0) :
    ∃ S' : MM, (FM S S' ∧ (∀ e, e < n → dp S0 e < L + 1 → GV S' Y e ∧ GW S' Y e)) ∧ ∀ K, m_finds_172 K (nI L) 1000 0 S = K S' := by
  obtain ⟨h, hT, hD, hW⟩ := T
  have h24 := h.2.2.1
  by_cases L0 : L = 0
  · subst L0
    refine ⟨S, ⟨FM_r S, fun e he hde => ?_⟩, fun K => ?_⟩
    · have hd : dp S0 e = 0 := by omega
      have he0 : e = 0 := by
        rcases Nat.eq_zero_or_pos e with z | z
        · exact z
        · obtain ⟨q, q1, q2, q3⟩ := par_s h z he
          have := dp_p h he q3
          omega
      subst he0
      exact ⟨hq 0 he hd, h0 rfl⟩
    · rw [m_finds_172]
      by_cases z : S 3 0 ≤ 0
      · rw [if_pos z]
      · rw [if_neg z, if_pos (by decide)]
  · obtain ⟨s, ⟨i1, i2, i3, i4, i5⟩, e⟩ := lp_0 (σ := MM) (α := Option MM) (L := fun K fu k s => m_finds_172 K (nI L) fu (nI k) s) (n := n)
      (Inv := fun k s => FM S s ∧ s 23 = S 23 ∧ s 24 = S 24 ∧ (∀ e, e < n → dp S0 e < L → GW s Y e) ∧ ∀ c p, c < n → par S0 c = some p → dp S0 c = L → p < k → GW s Y c)
      (fun K fu s hi => by
        show m_finds_172 K (nI L) (fu + 1) (nI n) s = K s
        rw [m_finds_172, (FM_t hS hi.1) 3 (by decide), h.1, if_pos (Int32.le_refl _)])
      (fun fu k s hk hi => by
        obtain ⟨i1, i2, i3, i4, i5⟩ := hi
        have f0 := FM_t hS i1
        have k24 : k < 24 := by omega
        have hd := dp_le h k hk
        have h27k : s 27 k = nI (dp S0 k) := by rw [i1 27 (by decide)]; exact h27 k hk
        have hGV : ∀ e, GV S Y e → GV s Y e := fun e g p hp => by rw [i2, i3]; exact g p hp
        have eL : nI L - 1 = nI (L - 1) := by
          obtain ⟨l, rfl⟩ : ∃ l, L = l + 1 := ⟨L - 1, by omega⟩
          exact nI_pred l
        by_cases q : dp S0 k + 1 = L
        · have g := FM_TG f0
          have hks := hp k hk (by omega)
          obtain ⟨t, t0, t7, ht⟩ := (hV k hk).2.1
          obtain ⟨s', u1, u2, u3, u4, u5⟩ := findsWidths_s (S := s) (Y := Y) (TS_c g h) hk (WDo_c g hW) (LEB_c g hY.2.1) (LEW_c g (hY.2.2.2.1 k hk)) (i4 k hk (by omega)).1 (i4 k hk (by omega)).2 (fun p hp => (hGV k hks.1 p hp).1) (fun c hc hcp p hp => by
            rw [par_c g] at hcp
            have := dp_p h hc hcp
            exact (hGV c (hq c hc (by omega)) p hp).1) ht t0 t7
          rw [par_c g] at u2 u3 u4
          have oth : ∀ e, e < n → ¬ par S0 e = some k → GW s Y e → GW s' Y e := fun e he hne gw => by
            obtain ⟨w1, w2⟩ := gw
            refine ⟨by rw [u3 e (fun z => hne z.2)]; exact w1, fun y => ?_⟩
            rw [u4 (4 * e + 2) (fun c hc hcp hcy z => hne (by rw [show e = c by omega]; exact hcp))]
            exact w2 y
          refine ⟨s', ⟨fun j hj => (u5 j (by omega) (by omega) (by omega) (by omega) (by omega) (by omega)).trans (i1 j hj), (u5 23 (by decide) (by decide) (by decide) (by decide) (by decide) (by decide)).trans i2, (u5 24 (by decide) (by decide) (by decide) (by decide) (by decide) (by decide)).trans i3, fun e he hde => ?_, fun c p hc hcp hdc hpk => ?_⟩, fun K => ?_⟩
          · refine oth e he (fun z => ?_) (i4 e he hde)
            have := dp_p h he z
            omega
          · by_cases z : p = k
            · rw [z] at hcp
              exact u2 c hc hcp
            · refine oth c hc (fun y => ?_) (i5 c p hc hcp hdc (by omega))
              rw [hcp] at y
              exact z (Option.some.inj y)
          · show m_finds_172 K (nI L) (fu + 1) (nI k) s = m_finds_172 K (nI L) fu (nI (k + 1)) s'
            rw [m_finds_172, f0 3 (by decide), h.1, if_neg (nI_ge hk (by omega)), if_neg (nI_nle (by omega) (by omega)), if_pos (ix_nI k24 (by omega)), tn_nI (by omega), h27k, eL, if_pos (by rw [show L - 1 = dp S0 k by omega]), u1, bd_s, nI_1]
        · refine ⟨s, ⟨i1, i2, i3, i4, fun c p hc hcp hdc hpk => ?_⟩, fun K => ?_⟩
          · have z : p ≠ k := fun z => by
              subst z
              have := dp_p h hc hcp
              omega
            exact i5 c p hc hcp hdc (by omega)
          · show m_finds_172 K (nI L) (fu + 1) (nI k) s = m_finds_172 K (nI L) fu (nI (k + 1)) s
            rw [m_finds_172, f0 3 (by decide), h.1, if_neg (nI_ge hk (by omega)), if_neg (nI_nle (by omega) (by omega)), if_pos (ix_nI k24 (by omega)), tn_nI (by omega), h27k, eL, if_neg (fun z => q (by have := (nI_eq (by omega) (by omega)).mp z; omega)), nI_1])
      (fu := 1000) (s := S) (by omega) ⟨FM_r S, rfl, rfl, fun e he hde => (hp e he hde).2, fun c p _ _ _ hpk => absurd hpk (Nat.not_lt_zero p)⟩
    rw [nI_0] at e
    refine ⟨s, ⟨i1, fun e he hde => ⟨?_, ?_⟩⟩, e⟩
    · have g : GV S Y e := by
        by_cases z : dp S0 e < L
        · exact (hp e he z).1
        · exact hq e he (by omega)
      exact fun p hp => by rw [i2, i3]; exact g p hp
    · by_cases z : dp S0 e < L
      · exact i4 e he z
      · cases hpe : par S0 e with
        | none =>
          rw [dp_0 hpe] at hde z
          omega
        | some p => exact i5 e p he hpe (by omega) ((par_S h he).2 p hpe).2
theorem finds74 {S0 S Y : MM} {n R M : Nat} (T : TOLD S0 n R) (hY : LE S0 Y n R) (hV : VR Y n) (hS : FM S0 S ∨ ∀ k, k ≠ 27 → S k = S0 k) (h27 : ∀ e, e < n → S 27 e = nI (dp S0 e)) (hM : M ≤ 23) (hMd : ∀ e, e < n → dp S0 e ≤ M) :
    ∃ S' : MM, ((∀ k, k ≤ 22 ∨ 29 ≤ k ∧ k ≤ 33 → S' k = S0 k) ∧ (∀ e, e < n → S' 27 e = nI (dp S0 e)) ∧ ∀ e, e < n → GV S' Y e ∧ GW S' Y e) ∧ ∀ K, m_finds_74 K (nI M) 1000 0 S = K S' := by
  -- the rows told, the row of depths set apart
  have hX : ∃ S0' : MM, TOLD S0' n R ∧ LE S0' Y n R ∧ dp S0' = dp S0 ∧ FM S0' S ∧ ∀ k, k ≤ 22 ∨ 29 ≤ k ∧ k ≤ 33 → S0' k = S0 k := by
    rcases hS with hS | hS
    · exact ⟨S0, T, hY, rfl, hS, fun _ _ => rfl⟩
    · refine ⟨fun k => if k = 27 then S 27 else S0 k, ?_, ?_, ?_, fun k hk => ?_, fun k hk => if_neg (by omega)⟩
      · have g : TG S0 (fun k => if k = 27 then S 27 else S0 k) := fun k _ hk => if_neg (by omega)
        exact ⟨TS_c g T.1, RTo_c g T.2.1, TDo_c g T.2.2.1, WDo_c g T.2.2.2⟩
      · have g : TG S0 (fun k => if k = 27 then S 27 else S0 k) := fun k _ hk => if_neg (by omega)
        obtain ⟨y1, y2, y3, y4, y5⟩ := hY
        refine ⟨fun e he => ?_, LEB_c g y2, ?_, fun p hp => LEW_c g (y4 p hp), fun p hp => LEH_c g (y5 p hp)⟩
        · obtain ⟨xs, x1, x2, x3, x4, x5⟩ := y1 e he
          refine ⟨xs, fun r => ?_, by rw [stB_c g]; exact x2, x3, fun p hp => by rw [tkY_c g, cl_c g]; exact x4 p hp, fun v hv => ?_⟩
          · rw [x1 r]
            unfold thY
            rw [fitS_c g, par_c g, nct_c g, g 19 (by decide) (by decide)]
          · rw [tkY_c g, cl_c g, show (fun p => cl (fun k => if k = 27 then S 27 else S0 k) p xs (-1)) = fun p => cl S0 p xs (-1) from funext fun p => cl_c g p xs _, ndS_c g]
            exact x5 v hv
        · rw [g 1 (by decide) (by decide)]
          exact y3
      · exact dp_c (fun k _ hk => if_neg (by omega))
      · by_cases z : k = 27
        · subst z
          rfl
        · rw [hS k z]
          exact (if_neg z).symm
  obtain ⟨S0', T', hY', hd', hS', hk'⟩ := hX
  rw [← hd'] at h27 hMd ⊢
  have h := T'.1
  have h24 := h.2.2.1
  obtain ⟨s, ⟨i1, i2⟩, e⟩ := lp_0 (σ := MM) (α := Option MM) (L := fun K fu k s => m_finds_74 K (nI M) fu (nI k) s) (n := M + 1)
    (Inv := fun k s => FM S s ∧ ∀ e, e < n → dp S0' e < k → GV s Y e ∧ GW s Y e)
    (fun K fu s hi => by
      show m_finds_74 K (nI M) (fu + 1) (nI (M + 1)) s = K s
      rw [m_finds_74, if_pos (nI_lt (by omega) (by omega))])
    (fun fu k s hk hi => by
      obtain ⟨i1, i2⟩ := hi
      have f0 := FM_t hS' i1
      have h27s : ∀ e, e < n → s 27 e = nI (dp S0' e) := fun e he => by rw [i1 27 (by decide)]; exact h27 e he
      obtain ⟨s1, ⟨a1, a2, a3, a4⟩, e1⟩ := finds81 (L := k) T' hY' hV f0 h27s (by omega) i2
      by_cases k0 : k = 0
      · subst k0
        have n0 : 0 < n := h.2.1
        have d0 : dp S0' 0 = 0 := dp_0 (par_0 h)
        have hv0 := a3 0 n0 d0
        have v5 : s1 23 (14 * 0 + 5) = Y 0 5 := (hv0 5 (by decide)).1
        have v0 : s1 23 (14 * 0 + 0) = Y 0 0 := (hv0 0 (by decide)).1
        have v2 : s1 23 (14 * 0 + 2) = Y 0 2 := (hv0 2 (by decide)).1
        have hb : (if Y 0 5 = 3 then (0 : Int32) else 1) = Y 0 29 := hY'.2.1.1.symm
        have h01 : Y 0 29 = 0 ∨ Y 0 29 = 1 := by
          rw [← hb]
          by_cases b : Y 0 5 = 3
          · rw [if_pos b]; exact Or.inl rfl
          · rw [if_neg b]; exact Or.inr rfl
        obtain ⟨s2, es2⟩ : ∃ s2 : MM, s2 = u2 (u2 s1 28 0 (Y 0 29)) 25 2 (owY Y 0 (S0' 1 0)) := ⟨_, rfl⟩
        have f2 : FM s1 s2 := fun j hj => by
          funext a
          rw [es2, u2_row (by omega), u2_row (by omega)]
        have g2 : ∀ e, GV s1 Y e → GV s2 Y e := fun e g p hp => by
          rw [es2, u2_row (by decide), u2_row (by decide), u2_row (by decide), u2_row (by decide)]
          exact g p hp
        have w2 : GW s2 Y 0 := by
          refine ⟨?_, fun y => ?_⟩
          · rw [es2, u2_row (by decide), u2_self]
          · rw [es2, show 4 * 0 + 2 = 2 from rfl, u2_self]
            exact (hY'.2.2.1 y).1.symm
        obtain ⟨s3, ⟨b1, b2⟩, e2⟩ := finds172 (S := s2) (L := 0) T' hY' hV (FM_t f0 (FM_t a1 f2)) (fun e he => by rw [f2 27 (by decide), a1 27 (by decide)]; exact h27s e he) (by omega) (fun e he hde => absurd hde (Nat.not_lt_zero _)) (fun e he hde => g2 e (a3 e he hde)) (fun _ => w2)
        refine ⟨s3, ⟨FM_t i1 (FM_t a1 (FM_t f2 b1)), fun e he hde => b2 e he hde⟩, fun K => ?_⟩
        show m_finds_74 K (nI M) (fu + 1) (nI 0) s = m_finds_74 K (nI M) fu (nI (0 + 1)) s3
        have c0 : (0 : Nat) < 24 := by decide
        have z5 : m_of s1 (0 : Int32) 5 = Y 0 5 := (of5 (c := 0) c0).trans v5
        have zu : ∀ x : Int32, m_of (u2 s1 28 0 x) (0 : Int32) 0 = Y 0 0 := fun x => ((of0 (S := u2 s1 28 0 x) (c := 0) c0).trans (by rw [u2_row (by decide)])).trans v0
        have zc : ∀ x y : Int32, m_capped (u2 s1 28 0 x) (0 : Int32) y = capm (Y 0 2) y := fun x y => (cap_n (S := u2 s1 28 0 x) (c := 0) c0).trans (by rw [u2_row (by decide), v2])
        have y5 : ∀ S' : MM, m_of_g S' (0 : Int32) 5 := fun S' => og5 (c := 0) c0
        have y0 : ∀ S' : MM, m_of_g S' (0 : Int32) 0 := fun S' => og0 (c := 0) c0
        have y2 : ∀ (S' : MM) (a : Int32), m_capped_g S' (0 : Int32) a := fun S' a => og2 (c := 0) c0
        have xx0 : ix (0 : Int32) 24 := ix_nI (a := 0) (by decide) (by decide)
        have xx2 : ix (2 : Int32) 96 := ix_nI (a := 2) (by decide) (by decide)
        have t0 : tn (0 : Int32) = 0 := tn_nI (a := 0) (by decide)
        have t2 : tn (2 : Int32) = 2 := tn_nI (a := 2) (by decide)
        rw [m_finds_74, if_neg (nI_nlt (by omega) (by omega)), e1, if_pos nI_0, if_pos (y5 _), z5, hb, bnd_s, if_pos xx0, if_pos h01, t0, bnd_s, if_pos (y0 _), zu, u2_row (by decide), a1 1 (by decide), i1 1 (by decide), hS' 1 (by decide), bnd_s, if_pos (y2 _ _), if_pos xx2, zc, t2, bnd_s, show capm (Y 0 2) (if Y 0 0 = -2 then S0' 1 0 else Y 0 0) = owY Y 0 (S0' 1 0) from rfl, ← es2, e2, nI_1]
      · obtain ⟨s3, ⟨b1, b2⟩, e2⟩ := finds172 (S := s1) (L := k) T' hY' hV (FM_t f0 a1) (fun e he => by rw [a1 27 (by decide)]; exact h27s e he) (by omega) a2 a3 (fun z => absurd z k0)
        refine ⟨s3, ⟨FM_t i1 (FM_t a1 b1), b2⟩, fun K => ?_⟩
        show m_finds_74 K (nI M) (fu + 1) (nI k) s = m_finds_74 K (nI M) fu (nI (k + 1)) s3
        rw [m_finds_74, if_neg (nI_nlt (by omega) (by omega)), e1, if_neg (nI_ne0 (by omega) (by omega)), e2, nI_1])
    (fu := 1000) (s := S) (by omega) ⟨FM_r S, fun e _ z => absurd z (Nat.not_lt_zero _)⟩
  rw [nI_0] at e
  exact ⟨s, ⟨fun k hk => ((FM_t hS' i1) k (by omega)).trans (hk' k hk), fun e he => by rw [i1 27 (by decide)]; exact h27 e he, fun e he => i2 e he (by have := hMd e he; omega)⟩, e⟩
