/-! ===== widths are no less than 0 ===== -/
theorem bm32 {z : Int} (h1 : -2147483648 ≤ z) (h2 : z < 2147483648) : z.bmod (2 ^ 32) = z := by
  rw [Int.bmod_eq_of_le (by omega) (by omega)]
theorem i_add {a b : Int32} (h1 : -2147483648 ≤ a.toInt + b.toInt) (h2 : a.toInt + b.toInt < 2147483648) : (a + b).toInt = a.toInt + b.toInt := by
  rw [Int32.toInt_add, bm32 h1 h2]
theorem i_sub {a b : Int32} (h1 : -2147483648 ≤ a.toInt - b.toInt) (h2 : a.toInt - b.toInt < 2147483648) : (a - b).toInt = a.toInt - b.toInt := by
  rw [Int32.toInt_sub, bm32 h1 h2]
theorem i_0 : (0 : Int32).toInt = 0 := rfl
theorem i_1 : (1 : Int32).toInt = 1 := rfl
/-- in 0 .. B -/
def inB (B : Int) (x : Int32) : Prop := 0 ≤ x.toInt ∧ x.toInt ≤ B
theorem capm_b {B : Int} {m x : Int32} (hB : 2000 ≤ B) (hm : m = -2 ∨ (0 ≤ m ∧ m ≤ 2000)) (hx : inB B x) : inB B (capm m x) := by
  unfold capm
  by_cases q : m = -2
  · rw [if_pos q]; exact hx
  · rw [if_neg q]
    by_cases y : x ≤ m
    · rw [if_pos y]; exact hx
    · rw [if_neg y]
      obtain ⟨a, b⟩ := hm.resolve_left q
      rw [i_le] at a b
      have : (2000 : Int32).toInt = 2000 := rfl
      rw [i_0] at a
      exact ⟨a, by omega⟩
def wsm (w : Nat → Int32) : List Nat → Int
  | [] => 0
  | c :: cs => (w c).toInt + wsm w cs
theorem wsm_m {w : Nat → Int32} {B : Int} : ∀ (ks : List Nat), (∀ c, c ∈ ks → inB B (w c)) → 0 ≤ wsm w ks ∧ wsm w ks ≤ B * ks.length ∧ ∀ c, c ∈ ks → (w c).toInt ≤ wsm w ks
  | [], _ => ⟨Int.le_refl _, by rw [List.length_nil]; exact Int.le_of_eq (Int.mul_zero B).symm, fun c hc => by cases hc⟩
  | c :: cs, h => by
    obtain ⟨a1, a2, a3⟩ := wsm_m cs (fun d hd => h d (List.mem_cons_of_mem _ hd))
    obtain ⟨b1, b2⟩ := h c List.mem_cons_self
    rw [wsm, List.length_cons]
    refine ⟨by omega, ?_, fun d hd => ?_⟩
    · rw [Int.natCast_add, Int.mul_add]
      show _ ≤ B * (cs.length : Int) + B * 1
      omega
    · rcases List.mem_cons.mp hd with z | z
      · rw [z]; omega
      · have := a3 d z
        omega
theorem shR_i {w : Nat → Int32} : ∀ (ks : List Nat) (a : Int32), (∀ c, c ∈ ks → inB 2100 (w c)) → a.toInt ≤ 1000000 → -1000000 ≤ a.toInt - 2100 * ks.length → (shR w ks a).toInt = a.toInt - wsm w ks
  | [], a, _, _, _ => by
    show a.toInt = a.toInt - 0
    omega
  | c :: cs, a, h, h1, h2 => by
    obtain ⟨b1, b2⟩ := h c List.mem_cons_self
    rw [List.length_cons] at h2
    have hl : (0 : Int) ≤ cs.length := Int.natCast_nonneg _
    have e1 : (a - w c).toInt = a.toInt - (w c).toInt := i_sub (by omega) (by omega)
    show (shR w cs (a - w c)).toInt = a.toInt - ((w c).toInt + wsm w cs)
    rw [shR_i cs (a - w c) (fun d hd => h d (List.mem_cons_of_mem _ hd)) (by omega) (by omega), e1]
    omega
def sU (fz g : Nat → Int32) : List Nat → Nat
  | [] => 0
  | c :: cs => (if fz c = 0 then tn (g c) else 0) + sU fz g cs
theorem shU_i {fz g : Nat → Int32} : ∀ (ks : List Nat) (a : Nat), (∀ c, c ∈ ks → g c = nI (tn (g c)) ∧ tn (g c) ≤ 9) → shU fz g ks (nI a) = nI (a + sU fz g ks) ∧ sU fz g ks ≤ 9 * ks.length ∧ ∀ c, c ∈ ks → fz c = 0 → tn (g c) ≤ sU fz g ks
  | [], a, _ => ⟨rfl, Nat.le_refl _, fun c hc => by cases hc⟩
  | c :: cs, a, h => by
    obtain ⟨g1, g2⟩ := h c List.mem_cons_self
    have e1 : nI a + (if fz c = 0 then g c else 0) = nI (a + (if fz c = 0 then tn (g c) else 0)) := by
      by_cases q : fz c = 0
      · rw [if_pos q, if_pos q, ← nI_add, ← g1]
      · rw [if_neg q, if_neg q, Int32.add_zero, Nat.add_zero]
    obtain ⟨a1, a2, a3⟩ := shU_i cs (a + (if fz c = 0 then tn (g c) else 0)) (fun d hd => h d (List.mem_cons_of_mem _ hd))
    refine ⟨?_, ?_, fun d hd hd0 => ?_⟩
    · show shU fz g cs (nI a + (if fz c = 0 then g c else 0)) = nI (a + ((if fz c = 0 then tn (g c) else 0) + sU fz g cs))
      rw [e1, a1, Nat.add_assoc]
    · show (if fz c = 0 then tn (g c) else 0) + sU fz g cs ≤ 9 * (cs.length + 1)
      by_cases q : fz c = 0
      · rw [if_pos q]; omega
      · rw [if_neg q]; omega
    · show tn (g d) ≤ (if fz c = 0 then tn (g c) else 0) + sU fz g cs
      rcases List.mem_cons.mp hd with z | z
      · rw [z] at hd0 ⊢
        rw [if_pos hd0]
        omega
      · have := a3 d z hd0
        omega
theorem shG_b {rest sum : Int32} {fz g : Nat → Int32} {X : Int} (h : ∀ c, fz c = 0 ∧ 0 < g c → ∀ c', c' = c → True) : ∀ (ks : List Nat) (m : Int32) (z : Nat), z ∈ ks → shG rest sum fz g ks m z = 0 ∨ (fz z = 0 ∧ 0 < g z ∧ (shG rest sum fz g ks m z = rest * g z / sum + 0 ∨ shG rest sum fz g ks m z = rest * g z / sum + 1))
  | [], m, z, hz => by cases hz
  | c :: cs, m, z, hz => by
    rw [shG]
    by_cases q : z = c
    · rw [if_pos q]
      by_cases a : fz c = 0 ∧ 0 < g c
      · rw [if_pos a, q]
        refine Or.inr ⟨a.1, a.2, ?_⟩
        by_cases b : m ≤ 0
        · rw [if_pos b]; exact Or.inl rfl
        · rw [if_neg b]; exact Or.inr rfl
      · rw [if_neg a]; exact Or.inl rfl
    · rw [if_neg q]
      exact shG_b (X := X) h cs _ z ((List.mem_cons.mp hz).resolve_left q)
theorem shF_b {ks : List Nat} {Wd : Int32} {g m : Nat → Int32} {B : Int} (hB : 2000 ≤ B) (hB2 : B ≤ 2100) (hl : ks.length ≤ 24) (hW : Wd.toInt + 1 ≤ B) (hW0 : 0 ≤ Wd.toInt) (hg : ∀ c, c ∈ ks → g c = nI (tn (g c)) ∧ tn (g c) ≤ 9) (hm : ∀ c, c ∈ ks → m c = -2 ∨ (0 ≤ m c ∧ m c ≤ 2000)) :
    ∀ (j : Nat) (w fz : Nat → Int32), (∀ c, c ∈ ks → inB B (w c)) → ∀ c, c ∈ ks → inB B (shF ks Wd g m j w fz c)
  | 0, w, fz, hw, c, hc => hw c hc
  | j + 1, w, fz, hw, c, hc => by
    have hw21 : ∀ c, c ∈ ks → inB 2100 (w c) := fun d hd => ⟨(hw d hd).1, by have := (hw d hd).2; omega⟩
    have hll : (ks.length : Int) ≤ 24 := by omega
    have hR := shR_i ks Wd hw21 (by omega) (by omega)
    obtain ⟨s1, s2, s3⟩ := wsm_m ks hw
    obtain ⟨u1, u2, u3⟩ := shU_i (fz := fz) ks 0 hg
    rw [nI_0, Nat.zero_add] at u1
    unfold shF
    by_cases a : shR w ks Wd ≤ 0 ∨ shU fz g ks 0 ≤ 0
    · rw [if_pos a]
      exact hw c hc
    · rw [if_neg a]
      have a1 : ¬ shR w ks Wd ≤ 0 := fun z => a (Or.inl z)
      have a2 : ¬ shU fz g ks 0 ≤ 0 := fun z => a (Or.inr z)
      rw [i_le, i_0] at a1
      have hgain : ∀ d, d ∈ ks → inB B (w d + shN ks Wd g w fz d) := fun d hd => by
        obtain ⟨w1, w2⟩ := hw d hd
        have w3 := s3 d hd
        obtain ⟨r, r1, r2⟩ := nI_of (x := shR w ks Wd) (fun z => by rw [i_lt, i_0] at z; omega)
        have r3 : (r : Int) = Wd.toInt - wsm w ks := by rw [← hR, r2, nI_toInt r1]
        obtain ⟨g1, g2⟩ := hg d hd
        have hsp : 0 < sU fz g ks := by
          rcases Nat.eq_zero_or_pos (sU fz g ks) with z | z
          · rw [u1, z] at a2
            exact absurd (Int32.le_refl _) a2
          · exact z
        have hb := shG_b (rest := shR w ks Wd) (sum := shU fz g ks 0) (fz := fz) (g := g) (X := 0) (fun _ _ _ _ => trivial) ks (shO (shR w ks Wd) (shU fz g ks 0) fz g ks (shR w ks Wd)) d hd
        have hN : shG (shR w ks Wd) (shU fz g ks 0) fz g ks (shO (shR w ks Wd) (shU fz g ks 0) fz g ks (shR w ks Wd)) d = shN ks Wd g w fz d := rfl
        rw [hN] at hb
        have hq : fz d = 0 → shR w ks Wd * g d / shU fz g ks 0 = nI (r * tn (g d) / sU fz g ks) ∧ r * tn (g d) / sU fz g ks ≤ r := fun h0 => by
          have hle := u3 d hd h0
          have hmul : r * tn (g d) ≤ 2100 * 9 := Nat.mul_le_mul (by omega) g2
          have e1 : shR w ks Wd * g d = nI (r * tn (g d)) := by
            rw [r2, ← pk_mul, ← g1]
          refine ⟨?_, ?_⟩
          · rw [e1, u1]
            exact pk_div (by omega) hsp (by omega)
          · exact Nat.div_le_of_le_mul (by rw [Nat.mul_comm]; exact Nat.mul_le_mul_right r hle)
        rcases hb with z | ⟨z1, z2, z3 | z3⟩
        · rw [z, Int32.add_zero]
          exact ⟨w1, w2⟩
        · obtain ⟨q1, q2⟩ := hq z1
          generalize r * tn (g d) / sU fz g ks = x at q1 q2
          rw [z3, Int32.add_zero, q1]
          have e2 : (nI x).toInt = (x : Int) := nI_toInt (by omega)
          have e3 := i_add (a := w d) (b := nI x) (by omega) (by omega)
          exact ⟨by omega, by omega⟩
        · obtain ⟨q1, q2⟩ := hq z1
          generalize r * tn (g d) / sU fz g ks = x at q1 q2
          rw [z3, q1, nI_1]
          have e2 : (nI (x + 1)).toInt = ((x + 1 : Nat) : Int) := nI_toInt (by omega)
          have e3 := i_add (a := w d) (b := nI (x + 1)) (by omega) (by omega)
          exact ⟨by omega, by omega⟩
      by_cases t : ks.any (shB w fz m (shN ks Wd g w fz)) = true
      · rw [if_pos t]
        refine shF_b hB hB2 hl hW hW0 hg hm j _ _ (fun d hd => ?_) c hc
        show inB B (if shB w fz m (shN ks Wd g w fz) d = true then m d else w d)
        by_cases y : shB w fz m (shN ks Wd g w fz) d = true
        · rw [if_pos y]
          unfold shB at y
          have y2 := (decide_eq_true_iff.mp y).2
          rcases hm d hd with z | ⟨z1, z2⟩
          · unfold capm at y2
            rw [if_pos z] at y2
            exact absurd (Int32.le_refl _) y2
          · rw [i_le, i_0] at z1
            rw [i_le] at z2
            have : (2000 : Int32).toInt = 2000 := rfl
            exact ⟨z1, by omega⟩
        · rw [if_neg y]
          exact hw d hd
      · rw [if_neg t]
        exact hgain c hc
theorem dg_9 : ∀ (f n x : Nat), x ∈ dg f n → x ≤ 9
  | 0, n, x, h => by cases h
  | f + 1, n, x, h => by
    rcases Nat.eq_zero_or_pos n with z | z
    · rw [z, dg_z] at h
      cases h
    · rw [dg_s z] at h
      rcases List.mem_cons.mp h with y | y
      · omega
      · exact dg_9 f (n / 10) x y
theorem lng_9 (x : Int32) : ∃ a, a ≤ 9 ∧ zLongest x = nI a := by
  have : ∀ (l : List Nat) (a : Nat), a ≤ 9 → (∀ y, y ∈ l → y ≤ 9) → ∃ b, b ≤ 9 ∧ l.foldl (fun s w => mxI s (nI w)) (nI a) = nI b := by
    intro l
    induction l with
    | nil => exact fun a ha _ => ⟨a, ha, rfl⟩
    | cons y l ih =>
      intro a ha hy
      rw [List.foldl_cons]
      have hy9 := hy y List.mem_cons_self
      by_cases q : nI a < nI y
      · have e : mxI (nI a) (nI y) = nI y := by unfold mxI; rw [if_pos q]
        rw [e]
        exact ih y hy9 (fun z hz => hy z (List.mem_cons_of_mem _ hz))
      · have e : mxI (nI a) (nI y) = nI a := by unfold mxI; rw [if_neg q]
        rw [e]
        exact ih a ha (fun z hz => hy z (List.mem_cons_of_mem _ hz))
  exact this (dg 8 (tn x)) 0 (by decide) (fun y hy => dg_9 _ _ y hy)
theorem owY_b {Y : MM} {c : Nat} {a : Int32} {B : Int} (hB : 2000 ≤ B) (hr : rng Y c) (ha : inB B a) : inB B (owY Y c a) := by
  obtain ⟨-, -, -, -, r0, r2, -⟩ := rng_x hr
  unfold owY
  refine capm_b hB r2 ?_
  by_cases q : Y c 0 = -2
  · rw [if_pos q]; exact ha
  · rw [if_neg q]
    obtain ⟨x, y⟩ := r0.resolve_left q
    rw [i_le, i_0] at x
    rw [i_le] at y
    have : (2000 : Int32).toInt = 2000 := rfl
    exact ⟨x, by omega⟩
theorem auY_b {S Y : MM} {c : Nat} {B : Int} (hB : 2000 ≤ B) (hr : rng Y c) : inB B (auY S Y c) := by
  obtain ⟨-, -, -, -, -, -, r9⟩ := rng_x hr
  obtain ⟨a, a1, a2⟩ := lng_9 (S 8 c)
  obtain ⟨s, s1, s2⟩ := nI_of (x := Y c 9) (Int32.not_lt.mpr r9.1)
  have h20 : (20 : Int32).toInt = 20 := rfl
  have s3 : s ≤ 20 := by
    have := r9.2
    rw [i_le, s2, nI_toInt s1] at this
    omega
  unfold auY
  have : ∃ b, b ≤ 180 ∧ (if S 9 c = 0 then zLongest (S 8 c) else 0) * Y c 9 = nI b := by
    by_cases q : S 9 c = 0
    · rw [if_pos q, a2, s2, pk_mul]
      exact ⟨a * s, Nat.mul_le_mul a1 s3, rfl⟩
    · rw [if_neg q, Int32.zero_mul]
      exact ⟨0, by decide, rfl⟩
  obtain ⟨b, b1, b2⟩ := this
  rw [b2]
  exact ⟨by rw [nI_toInt (by omega)]; omega, by rw [nI_toInt (by omega)]; omega⟩
/-- the widths -/
theorem LE_w {S Y : MM} {n R : Nat} (T : TS S n) (hY : LE S Y n R) (hr : ∀ e, e < n → rng Y e) (hw : 0 ≤ S 1 0 ∧ S 1 0 ≤ 2000) : ∀ e, e < n → Y e 29 ≠ 0 → inB (2000 + e) (Y e 32) := by
  have h24 := T.2.2.1
  have h2000 : (2000 : Int32).toInt = 2000 := rfl
  intro e
  induction e using Nat.strongRecOn with
  | ind e ih =>
    intro he hb
    by_cases e0 : e = 0
    · subst e0
      rw [(hY.2.2.1 hb).1]
      refine owY_b (by omega) (hr 0 he) ⟨?_, ?_⟩
      · have := hw.1
        rw [i_le, i_0] at this
        exact this
      · have := hw.2
        rw [i_le] at this
        omega
    · obtain ⟨p, p1, p2, p3⟩ := par_s T (by omega) he
      have hbp : Y p 29 ≠ 0 := fun z => hb (by rw [hY.2.1.2 e p he p3, if_pos z])
      obtain ⟨i1, i2⟩ := ih p p1 (by omega) hbp
      obtain ⟨k1, k2, k3⟩ := hY.2.2.2.1 p (by omega) hbp
      have hk : e ∈ kdk S Y p n := kdk_m.mpr ⟨he, p3, hb⟩
      have hB : (2000 : Int) ≤ 2000 + e := by omega
      have rk : ∀ c, c ∈ kdk S Y p n → rng Y c := fun c hc => hr c (kdk_m.mp hc).1
      by_cases d1 : Y p 5 = 1
      · rw [(k1 d1 e hk).1]
        refine shF_b hB (by omega) (Nat.le_trans kdk_l h24) (by omega) i1 (fun c hc => ?_) (fun c hc => (rng_x (rk c hc)).2.2.2.2.2.1) 25 _ _ (fun c hc => owY_b hB (rk c hc) (auY_b hB (rk c hc))) e hk
        have h6 : m_canBe (nI 6) (Y c 6) = 1 := by
          rcases (rk c hc).1 6 (by decide) with z | ⟨z, -⟩ | ⟨z, -⟩
          · exact z
          · omega
          · omega
        have h6' : 0 ≤ Y c 6 ∧ Y c 6 ≤ 9 := m_in1.mp h6
        obtain ⟨s, s1, s2⟩ := nI_of (x := Y c 6) (Int32.not_lt.mpr h6'.1)
        have h9 : (9 : Int32).toInt = 9 := rfl
        have := h6'.2
        rw [i_le, s2, nI_toInt s1] at this
        rw [s2, tn_nI s1]
        exact ⟨rfl, by omega⟩
      · by_cases d2 : Y p 5 = 2
        · obtain ⟨t, t0, t7, ht⟩ := (rng_x (hr p (by omega))).1
          obtain ⟨k, hkk⟩ := List.getElem?_of_mem hk
          rw [(k2 d2 k e t hkk ht t0 t7).1]
          obtain ⟨s, s1, s2⟩ := nI_of (x := Y p 32) (fun z => by rw [i_lt, i_0] at z; omega)
          rw [s2, nI_toInt s1] at i2
          have hd : s / t ≤ s := Nat.div_le_self s t
          rw [s2, pk_div s1 t0 (by omega)]
          generalize s / t = x at hd ⊢
          by_cases q : nI s - nI x * nI t ≤ nI (k % t)
          · rw [if_pos q, Int32.add_zero]
            exact ⟨by rw [nI_toInt (by omega)]; omega, by rw [nI_toInt (by omega)]; omega⟩
          · rw [if_neg q, nI_1]
            exact ⟨by rw [nI_toInt (by omega)]; omega, by rw [nI_toInt (by omega)]; omega⟩
        · rw [(k3 d1 d2 e hk).1]
          exact owY_b hB (hr e he) ⟨i1, by omega⟩
theorem LE_VR {S Y : MM} {n R : Nat} (T : TS S n) (hY : LE S Y n R) (hr : ∀ e, e < n → rng Y e) (hw : 0 ≤ S 1 0 ∧ S 1 0 ≤ 2000) : VR Y n := fun e he => by
  obtain ⟨a, b, c, -⟩ := rng_x (hr e he)
  refine ⟨(hr e he).2, a, b, c, fun hb => ?_⟩
  have := (LE_w T hY hr hw e he hb).1
  rw [i_le, i_0]
  exact this
