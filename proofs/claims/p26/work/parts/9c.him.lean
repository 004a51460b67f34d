/-! ===== what is found: heights and places, over a table ===== -/
def sbT (A H B : Nat → Int32) : List Nat → Int32 → Int32 → Nat → Int32
  | [], _, _, _ => 0
  | c :: cs, x, y, z => if z = c then x + mxI y (A c) else sbT A H B cs (x + mxI y (A c) + H c) (B c) z
def sbE (A H B : Nat → Int32) : List Nat → Int32 → Int32 → Int32
  | [], x, y => x + y
  | c :: cs, x, y => sbE A H B cs (x + mxI y (A c) + H c) (B c)
def srT (t : Int32) (A H B : Nat → Int32) : List Nat → Int32 → Int32 → Int32 → Nat → Int32
  | [], _, _, _, _ => 0
  | c :: cs, x, y, k, z => if k < t then (if z = c then x + A c else srT t A H B cs x (mxI y (A c + H c + B c)) (k + 1) z)
      else (if z = c then x + y + A c else srT t A H B cs (x + y) (mxI 0 (A c + H c + B c)) (0 + 1) z)
def srE (t : Int32) (A H B : Nat → Int32) : List Nat → Int32 → Int32 → Int32 → Int32
  | [], x, y, _ => x + y
  | c :: cs, x, y, k => if k < t then srE t A H B cs x (mxI y (A c + H c + B c)) (k + 1) else srE t A H B cs (x + y) (mxI 0 (A c + H c + B c)) (0 + 1)
/-- lines and height of p, the tops of its children -/
def LEH (S Y : MM) (n p : Nat) : Prop := Y p 29 ≠ 0 → Y p 34 = zLines (S 8 p) (Y p 9) (Y p 32) ∧
  Y p 33 = (if Y p 1 = -2 then (if Y p 5 = 1 then srE 24 (fun c => Y c 3) (fun c => Y c 33) (fun c => Y c 4) (kdk S Y p n) (Y p 34 * Y p 9) 0 0 else if Y p 5 = 2 then srE (Y p 7) (fun c => Y c 3) (fun c => Y c 33) (fun c => Y c 4) (kdk S Y p n) (Y p 34 * Y p 9) 0 0
    else sbE (fun c => Y c 3) (fun c => Y c 33) (fun c => Y c 4) (kdk S Y p n) (Y p 34 * Y p 9) 0) else Y p 1) ∧
  ∀ c, c ∈ kdk S Y p n → Y c 31 = (if Y p 5 = 1 then srT 24 (fun c => Y c 3) (fun c => Y c 33) (fun c => Y c 4) (kdk S Y p n) (Y p 34 * Y p 9) 0 0 c else if Y p 5 = 2 then srT (Y p 7) (fun c => Y c 3) (fun c => Y c 33) (fun c => Y c 4) (kdk S Y p n) (Y p 34 * Y p 9) 0 0 c
    else sbT (fun c => Y c 3) (fun c => Y c 33) (fun c => Y c 4) (kdk S Y p n) (Y p 34 * Y p 9) 0 c) + Y p 31
/-! ===== the model's functions: findsLines ===== -/
theorem lines16 {size width : Int32} {e : Nat} (he : e < 24) : ∀ (f r : Nat), r < 10 ^ f → r < 2 ^ 31 → ∀ fu, f + 1 ≤ fu → ∀ (a b : Int32) (S : MM), S 26 e = a → S 23 (14 * e + 9) = size → S 25 (4 * e + 2) = width →
    ∃ S' : MM, m_findsLines_16 (nI e) fu b (nI r) S = some S' ∧ S' 26 e = ((dg f r).foldl (clS size width) (a, b)).1 ∧ (∀ j, j ≠ e → S' 26 j = S 26 j) ∧ ∀ k, k ≠ 26 → S' k = S k := by
  intro f
  induction f with
  | zero =>
    intro r hr h31 fu hf a b S h1 h2 h3
    obtain ⟨fu, rfl⟩ : ∃ z, fu = z + 1 := ⟨fu - 1, by omega⟩
    have : r = 0 := by
      rw [Nat.pow_zero] at hr
      omega
    subst this
    exact ⟨S, by rw [m_findsLines_16, if_pos (by decide)], h1, fun _ _ => rfl, fun _ _ => rfl⟩
  | succ f ih =>
    intro r hr h31 fu hf a b S h1 h2 h3
    obtain ⟨fu, rfl⟩ : ∃ z, fu = z + 1 := ⟨fu - 1, by omega⟩
    rcases Nat.eq_zero_or_pos r with z | z
    · subst z
      refine ⟨S, by rw [m_findsLines_16, if_pos (by decide)], ?_, fun _ _ => rfl, fun _ _ => rfl⟩
      rw [dg_z]
      exact h1
    · have hr' : r / 10 < 10 ^ f := by
        rw [Nat.pow_succ, Nat.mul_comm] at hr
        exact Nat.div_lt_of_lt_mul hr
      obtain ⟨w, ew⟩ : ∃ w, w = r % 10 := ⟨_, rfl⟩
      obtain ⟨x, ex⟩ : ∃ x : Int32 × Int32, x = clS size width (a, b) w := ⟨_, rfl⟩
      have e0 : m_findsLines_16 (nI e) (fu + 1) b (nI r) S = m_findsLines_16 (nI e) fu x.2 (nI (r / 10)) (u2 S 26 e x.1) := by
        rw [m_findsLines_16, if_neg (nI_nle z h31), show nI r - nI r / 10 * 10 = nI (r % 10) from pk_rem (d := 10) h31 (by decide) (by decide), show nI r / 10 = nI (r / 10) from pk_div (d := 10) h31 (by decide) (by decide), if_pos (og9 he), of9 he, h2, bnd_s, if_pos (ix_nI he (by omega)), i42, if_pos (fun _ => ix_nI (by omega) (by omega)), ← ew, ex]
        simp only [tn_nI (show e < 2 ^ 31 by omega), tn_nI (show 4 * e + 2 < 2 ^ 31 by omega), h1, h3, bnd_s]
        unfold clS
        by_cases c1 : a ≤ 0
        · simp only [if_pos c1, ↓reduceIte]
        · simp only [if_neg c1]
          by_cases c2 : width < b + size + nI w * size
          · simp only [if_pos c2, ↓reduceIte]
          · simp only [if_neg c2]
            rw [if_neg (by decide), if_neg (by decide), Int32.add_zero, Int32.add_assoc]
      obtain ⟨S', s1, s2, s3, s4⟩ := ih (r / 10) hr' (by omega) fu (by omega) x.1 x.2 (u2 S 26 e x.1) (u2_self _ _ _ _) (by rw [u2_row (by decide)]; exact h2) (by rw [u2_row (by decide)]; exact h3)
      refine ⟨S', e0.trans s1, ?_, fun j hj => ?_, fun k hk => ?_⟩
      · rw [s2, dg_s z, List.foldl_cons, ← ew, ← ex]
      · rw [s3 j hj, u2_ne (fun y => hj y.2)]
      · rw [s4 k hk]
        funext j
        rw [u2_row hk]
theorem lines_s {S : MM} {e wd : Nat} (he : e < 24) (h8 : S 8 e = nI wd) (hw : wd < 100000000) : ∃ S' : MM, m_findsLines S (nI e) = some S' ∧ S' 26 e = zLines (S 8 e) (S 23 (14 * e + 9)) (S 25 (4 * e + 2)) ∧ (∀ j, j ≠ e → S' 26 j = S 26 j) ∧ ∀ k, k ≠ 26 → S' k = S k := by
  obtain ⟨S', s1, s2, s3, s4⟩ := lines16 (size := S 23 (14 * e + 9)) (width := S 25 (4 * e + 2)) he 8 wd (by omega) (by omega) 1000 (by decide) 0 0 (u2 S 26 e 0) (u2_self _ _ _ _) (by rw [u2_row (by decide)]) (by rw [u2_row (by decide)])
  refine ⟨S', ?_, ?_, fun j hj => ?_, fun k hk => ?_⟩
  · unfold m_findsLines
    rw [if_pos (ix_nI he (by omega)), tn_nI (by omega), bnd_s, bnd_s, u2_row (by decide), h8]
    exact s1
  · rw [s2, h8]
    unfold zLines
    rw [tn_nI (by omega)]
  · rw [s3 j hj, u2_ne (fun y => hj y.2)]
  · rw [s4 k hk]
    funext j
    rw [u2_row hk]
/-! ===== the model's functions: findsHeight, its loop ===== -/
abbrev S4 : Type := Int32 × Int32 × Int32 × Int32
/-- left and top of each one, and what is left at the end, by what one step does -/
def hr (F : Nat → Nat → S4 → S4) (P : Nat → Nat → S4 → Int32 × Int32) : List Nat → Nat → S4 → Nat → Int32 × Int32
  | [], _, _, _ => (0, 0)
  | c :: cs, i, s, z => if z = c then P i c s else hr F P cs (i + 1) (F i c s) z
def hf (F : Nat → Nat → S4 → S4) : List Nat → Nat → S4 → S4
  | [], _, s => s
  | c :: cs, i, s => hf F cs (i + 1) (F i c s)
def rmk (S Y : MM) (p n k : Nat) : List Nat := (List.range' k (n - k)).filter (fun c => decide (par S c = some p ∧ Y c 29 ≠ 0))
theorem rmk_0 {S Y : MM} {p n : Nat} : rmk S Y p n 0 = kdk S Y p n := by
  unfold rmk kdk
  rw [List.range_eq_range', Nat.sub_zero]
theorem rmk_n {S Y : MM} {p n : Nat} : rmk S Y p n n = [] := by
  unfold rmk
  rw [Nat.sub_self]
  rfl
theorem rmk_s {S Y : MM} {p n k : Nat} (h : k < n) : rmk S Y p n k = if par S k = some p ∧ Y k 29 ≠ 0 then k :: rmk S Y p n (k + 1) else rmk S Y p n (k + 1) := by
  unfold rmk
  rw [show n - k = (n - (k + 1)) + 1 by omega, List.range'_succ, List.filter_cons]
  by_cases q : par S k = some p ∧ Y k 29 ≠ 0
  · rw [if_pos (decide_eq_true_iff.mpr q), if_pos q]
  · rw [if_neg (fun z => q (decide_eq_true_iff.mp z)), if_neg q]
theorem rmk_m {S Y : MM} {p n k c : Nat} (h : c ∈ rmk S Y p n k) : k ≤ c ∧ c < n ∧ par S c = some p ∧ Y c 29 ≠ 0 := by
  unfold rmk at h
  rw [List.mem_filter, List.mem_range', decide_eq_true_iff] at h
  obtain ⟨⟨i, h1, h2⟩, h3⟩ := h
  exact ⟨by omega, by omega, h3⟩
/-- what the loop reads of an element -/
def HX (S Y : MM) (c : Nat) : Prop := S 23 (14 * c + 3) = Y c 3 ∧ S 23 (14 * c + 4) = Y c 4 ∧ S 25 (4 * c + 2) = Y c 32 ∧ S 25 (4 * c + 3) = Y c 33
theorem fh63 {S Y : MM} {n p : Nat} {d x3 x4 : Int32} {F : Nat → Nat → S4 → S4} {P : Nat → Nat → S4 → Int32 × Int32} (h : TS S n) (hp : p < n) (h28 : ∀ c, c < n → par S c = some p → S 28 c = Y c 29) (hX : ∀ c, c ∈ kdk S Y p n → HX S Y c)
    (hst : ∀ (fu i k : Nat) (s : S4) (S1 : MM) (K : Int32 → Int32 → Int32 → MM → Option MM), k < n → i ≤ k → S1 3 0 = nI n → S1 5 k = nI p → ¬ S1 28 k = 0 → HX S1 Y k →
      m_findsHeight_63 K (nI p) d x3 x4 (fu + 1) s.1 s.2.1 s.2.2.1 s.2.2.2 (nI i) (nI k) S1 = m_findsHeight_63 K (nI p) d x3 x4 fu (F i k s).1 (F i k s).2.1 (F i k s).2.2.1 (F i k s).2.2.2 (nI (i + 1)) (nI (k + 1)) (u2 (u2 S1 25 (4 * k) (P i k s).1) 25 (4 * k + 1) (P i k s).2)) (s0 : S4) :
    ∃ S' : MM, ((∀ c, c ∈ kdk S Y p n → S' 25 (4 * c) = (hr F P (kdk S Y p n) 0 s0 c).1 ∧ S' 25 (4 * c + 1) = (hr F P (kdk S Y p n) 0 s0 c).2) ∧ (∀ i, (∀ c, c ∈ kdk S Y p n → i ≠ 4 * c ∧ i ≠ 4 * c + 1) → S' 25 i = S 25 i) ∧ ∀ k, k ≠ 25 → S' k = S k) ∧
      ∀ K, m_findsHeight_63 K (nI p) d x3 x4 1000 s0.1 s0.2.1 s0.2.2.1 s0.2.2.2 0 0 S = K (hf F (kdk S Y p n) 0 s0).1 (hf F (kdk S Y p n) 0 s0).2.2.1 (hf F (kdk S Y p n) 0 s0).2.2.2 S' := by
  have h24 := h.2.2.1
  obtain ⟨R, eR⟩ : ∃ R : Nat → Int32 × Int32, R = hr F P (kdk S Y p n) 0 s0 := ⟨_, rfl⟩
  obtain ⟨E, eE⟩ : ∃ E : S4, E = hf F (kdk S Y p n) 0 s0 := ⟨_, rfl⟩
  rw [← eR, ← eE]
  obtain ⟨st, ⟨-, j2, j3, j4, j5, j6⟩, e⟩ := lp_p (σ := S4 × Nat × MM) (τ := Int32 × Int32 × Int32 × MM) (pr := fun s => (s.1.1, s.1.2.2.1, s.1.2.2.2, s.2.2)) (α := Option MM)
    (L := fun K fu k s => m_findsHeight_63 (fun a b c S' => K (a, b, c, S')) (nI p) d x3 x4 fu s.1.1 s.1.2.1 s.1.2.2.1 s.1.2.2.2 (nI s.2.1) (nI k) s.2.2) (n := n)
    (Inv := fun k s => s.2.1 ≤ k ∧ hf F (rmk S Y p n k) s.2.1 s.1 = E ∧ (∀ z, z ∈ rmk S Y p n k → hr F P (rmk S Y p n k) s.2.1 s.1 z = R z) ∧ (∀ c, c ∈ kdk S Y p n → c < k → s.2.2 25 (4 * c) = (R c).1 ∧ s.2.2 25 (4 * c + 1) = (R c).2) ∧
      (∀ i, (∀ c, c ∈ kdk S Y p n → c < k → i ≠ 4 * c ∧ i ≠ 4 * c + 1) → s.2.2 25 i = S 25 i) ∧ ∀ k, k ≠ 25 → s.2.2 k = S k)
    (fun K fu s hi => by
      show m_findsHeight_63 (fun a b c S' => K (a, b, c, S')) (nI p) d x3 x4 (fu + 1) s.1.1 s.1.2.1 s.1.2.2.1 s.1.2.2.2 (nI s.2.1) (nI n) s.2.2 = K (s.1.1, s.1.2.2.1, s.1.2.2.2, s.2.2)
      rw [m_findsHeight_63, hi.2.2.2.2.2 3 (by decide), h.1, if_pos (Int32.le_refl _)])
    (fun fu k s hk hi => by
      obtain ⟨s4, i, S1⟩ := s
      obtain ⟨j1, j2, j3, j4, j5, j6⟩ : i ≤ k ∧ hf F (rmk S Y p n k) i s4 = E ∧ (∀ z, z ∈ rmk S Y p n k → hr F P (rmk S Y p n k) i s4 z = R z) ∧ (∀ c, c ∈ kdk S Y p n → c < k → S1 25 (4 * c) = (R c).1 ∧ S1 25 (4 * c + 1) = (R c).2) ∧
        (∀ i, (∀ c, c ∈ kdk S Y p n → c < k → i ≠ 4 * c ∧ i ≠ 4 * c + 1) → S1 25 i = S 25 i) ∧ ∀ k, k ≠ 25 → S1 k = S k := hi
      have r3 : S1 3 0 = nI n := by rw [j6 3 (by decide)]; exact h.1
      have r5 : S1 5 k = S 5 k := by rw [j6 5 (by decide)]
      have k24 : k < 24 := by omega
      by_cases q : par S k = some p ∧ Y k 29 ≠ 0
      · have hm : k ∈ kdk S Y p n := kdk_m.mpr ⟨hk, q.1, q.2⟩
        rw [rmk_s hk, if_pos q] at j2 j3
        have hRk : P i k s4 = R k := by
          have := j3 k List.mem_cons_self
          rw [hr, if_pos rfl] at this
          exact this
        have hnot : ∀ z, z ∈ rmk S Y p n (k + 1) → z ≠ k := fun z hz y => by
          have := (rmk_m hz).1
          omega
        obtain ⟨x1, x2, x3', x4'⟩ := hX k hm
        have hX1 : HX S1 Y k := by
          refine ⟨by rw [j6 23 (by decide)]; exact x1, by rw [j6 23 (by decide)]; exact x2, ?_, ?_⟩
          · rw [j5 _ (fun c _ hc => ⟨by omega, by omega⟩)]; exact x3'
          · rw [j5 _ (fun c _ hc => ⟨by omega, by omega⟩)]; exact x4'
        have h5 : S1 5 k = nI p := by rw [r5]; exact (par_iff h hk (by omega)).mpr q.1
        have h28' : ¬ S1 28 k = 0 := by rw [j6 28 (by decide), h28 k hk q.1]; exact q.2
        refine ⟨(F i k s4, i + 1, u2 (u2 S1 25 (4 * k) (P i k s4).1) 25 (4 * k + 1) (P i k s4).2), ⟨by show i + 1 ≤ k + 1; omega, j2, fun z hz => ?_, fun c hc hck => ?_, fun j hj => ?_, fun j hj => ?_⟩, fun K => hst fu i k s4 S1 _ hk j1 r3 h5 h28' hX1⟩
        · have := j3 z (List.mem_cons_of_mem _ hz)
          rw [hr, if_neg (hnot z hz)] at this
          exact this
        · show u2 (u2 S1 25 (4 * k) (P i k s4).1) 25 (4 * k + 1) (P i k s4).2 25 (4 * c) = (R c).1 ∧ u2 (u2 S1 25 (4 * k) (P i k s4).1) 25 (4 * k + 1) (P i k s4).2 25 (4 * c + 1) = (R c).2
          rw [hRk]
          by_cases z : c = k
          · rw [z, u2_self, u2_ne (by omega), u2_self]
            exact ⟨rfl, rfl⟩
          · rw [u2_ne (by omega), u2_ne (by omega), u2_ne (by omega), u2_ne (by omega)]
            exact j4 c hc (by omega)
        · show u2 (u2 S1 25 (4 * k) (P i k s4).1) 25 (4 * k + 1) (P i k s4).2 25 j = S 25 j
          have := hj k hm (by omega)
          rw [u2_ne (fun z => this.2 z.2), u2_ne (fun z => this.1 z.2)]
          exact j5 j (fun c hc hck => hj c hc (by omega))
        · show u2 (u2 S1 25 (4 * k) (P i k s4).1) 25 (4 * k + 1) (P i k s4).2 j = S j
          funext a
          rw [u2_row hj, u2_row hj, j6 j hj]
      · rw [rmk_s hk, if_neg q] at j2 j3
        refine ⟨(s4, i, S1), ⟨by show i ≤ k + 1; omega, j2, j3, fun c hc hck => ?_, fun j hj => j5 j (fun c hc hck => hj c hc (by omega)), j6⟩, fun K => ?_⟩
        · have z : c ≠ k := fun z => q (by rw [← z]; exact (kdk_m.mp hc).2)
          exact j4 c hc (by omega)
        · show m_findsHeight_63 (fun a b c S' => K (a, b, c, S')) (nI p) d x3 x4 (fu + 1) s4.1 s4.2.1 s4.2.2.1 s4.2.2.2 (nI i) (nI k) S1 = m_findsHeight_63 (fun a b c S' => K (a, b, c, S')) (nI p) d x3 x4 fu s4.1 s4.2.1 s4.2.2.1 s4.2.2.2 (nI i) (nI (k + 1)) S1
          rw [m_findsHeight_63, r3, if_neg (nI_ge hk (by omega)), if_pos (ix_nI k24 (by omega)), tn_nI (by omega), r5]
          by_cases y : par S k = some p
          · rw [if_pos ((par_iff h hk (by omega)).mpr y), j6 28 (by decide), h28 k hk y, if_pos (Decidable.byContradiction (fun z => q ⟨y, z⟩)), nI_1]
          · rw [if_neg (fun z => y ((par_iff h hk (by omega)).mp z)), nI_1])
    (fu := 1000) (s := (s0, 0, S)) (by omega) ⟨Nat.le_refl _, by rw [rmk_0, eE], fun z _ => by rw [rmk_0, eR], fun c _ hc => absurd hc (Nat.not_lt_zero c), fun _ _ => rfl, fun _ _ => rfl⟩
  obtain ⟨s4, i, S'⟩ := st
  have j2' : hf F (rmk S Y p n n) i s4 = E := j2
  rw [rmk_n] at j2'
  have j2'' : s4 = E := j2'
  subst j2''
  refine ⟨S', ⟨fun c hc => j4 c hc (kdk_m.mp hc).1, fun j hj => j5 j (fun c hc _ => hj c hc), j6⟩, fun K => ?_⟩
  have := e (fun s => K s.1 s.2.1 s.2.2.1 s.2.2.2)
  rw [nI_0] at this
  exact this
/-! the three ways -/
def mxm (a b : Int32) : Int32 := if a ≤ b then b else a
def hs0 (Y : MM) (i c : Nat) (s : S4) : S4 := (s.1 + (if i = 0 then Y c 3 else mxm (Y c 3) s.2.2.2) + Y c 33, s.2.1, s.2.2.1, Y c 4)
def hq0 (Y : MM) (i c : Nat) (s : S4) : Int32 × Int32 := (0, s.1 + (if i = 0 then Y c 3 else mxm (Y c 3) s.2.2.2))
def hs1 (Y : MM) (_ c : Nat) (s : S4) : S4 := (s.1, s.2.1 + Y c 32, mxm (Y c 3 + Y c 33 + Y c 4) s.2.2.1, s.2.2.2)
def hq1 (Y : MM) (_ c : Nat) (s : S4) : Int32 × Int32 := (s.2.1, s.1 + Y c 3)
def gcw (Wd : Int32) (t i : Nat) : Int32 := Wd / nI t + (if Wd - Wd / nI t * nI t ≤ nI (i % t) then 0 else 1)
def hs2 (Y : MM) (Wd : Int32) (t i c : Nat) (s : S4) : S4 := if i % t = 0 then (s.1 + s.2.2.1, 0 + gcw Wd t i, mxm (Y c 3 + Y c 33 + Y c 4) 0, s.2.2.2) else (s.1, s.2.1 + gcw Wd t i, mxm (Y c 3 + Y c 33 + Y c 4) s.2.2.1, s.2.2.2)
def hq2 (Y : MM) (_ : Int32) (t i c : Nat) (s : S4) : Int32 × Int32 := if i % t = 0 then (0, s.1 + s.2.2.1 + Y c 3) else (s.2.1, s.1 + Y c 3)
theorem i43 (c : Nat) : (4 : Int32) * nI c + 3 = nI (4 * c + 3) := by rw [nx4, np3]
theorem i41 (c : Nat) : (4 : Int32) * nI c + 1 = nI (4 * c + 1) := by rw [nx4, nI_1]
theorem st0 {Y : MM} {n p : Nat} {x3 x4 : Int32} (h24 : n ≤ 24) {fu i k : Nat} {s : S4} {S1 : MM} {K : Int32 → Int32 → Int32 → MM → Option MM} (hk : k < n) (hik : i ≤ k) (r3 : S1 3 0 = nI n) (r5 : S1 5 k = nI p) (r28 : ¬ S1 28 k = 0) (hX : HX S1 Y k) :
    m_findsHeight_63 K (nI p) 0 x3 x4 (fu + 1) s.1 s.2.1 s.2.2.1 s.2.2.2 (nI i) (nI k) S1 = m_findsHeight_63 K (nI p) 0 x3 x4 fu (hs0 Y i k s).1 (hs0 Y i k s).2.1 (hs0 Y i k s).2.2.1 (hs0 Y i k s).2.2.2 (nI (i + 1)) (nI (k + 1)) (u2 (u2 S1 25 (4 * k) (hq0 Y i k s).1) 25 (4 * k + 1) (hq0 Y i k s).2) := by
  obtain ⟨x1, x2, x3, x4⟩ := hX
  have k24 : k < 24 := by omega
  have hi : (if nI i = 0 then Y k 3 else if Y k 3 ≤ s.2.2.2 then s.2.2.2 else Y k 3) = if i = 0 then Y k 3 else mxm (Y k 3) s.2.2.2 := by
    by_cases z : i = 0
    · rw [z, if_pos nI_0, if_pos rfl]
    · rw [if_neg z, if_neg (nI_ne0 (by omega) (by omega))]
      rfl
  rw [m_findsHeight_63, r3, if_neg (nI_ge hk (by omega)), if_pos (ix_nI k24 (by omega)), tn_nI (show k < 2 ^ 31 by omega), r5, if_pos rfl, if_neg r28, if_pos (og3 k24), of3 k24, x1, bnd_s, i43, if_pos (ix_nI (by omega) (by omega)), tn_nI (show 4 * k + 3 < 2 ^ 31 by omega), x4, bnd_s, if_pos rfl, hi, bnd_s, bnd_s, nx4, if_pos (ix_nI (by omega) (by omega)), tn_nI (show 4 * k < 2 ^ 31 by omega), bnd_s, nI_1, if_pos (ix_nI (by omega) (by omega)), tn_nI (show 4 * k + 1 < 2 ^ 31 by omega), bnd_s, bnd_s, if_pos (og4 k24), of4 k24, u2_row (by decide), u2_row (by decide), x2, bnd_s, nI_1, nI_1]
  rfl
theorem st1 {Y : MM} {n p : Nat} {x3 x4 : Int32} (h24 : n ≤ 24) {fu i k : Nat} {s : S4} {S1 : MM} {K : Int32 → Int32 → Int32 → MM → Option MM} (hk : k < n) (hik : i ≤ k) (r3 : S1 3 0 = nI n) (r5 : S1 5 k = nI p) (r28 : ¬ S1 28 k = 0) (hX : HX S1 Y k) :
    m_findsHeight_63 K (nI p) 1 x3 x4 (fu + 1) s.1 s.2.1 s.2.2.1 s.2.2.2 (nI i) (nI k) S1 = m_findsHeight_63 K (nI p) 1 x3 x4 fu (hs1 Y i k s).1 (hs1 Y i k s).2.1 (hs1 Y i k s).2.2.1 (hs1 Y i k s).2.2.2 (nI (i + 1)) (nI (k + 1)) (u2 (u2 S1 25 (4 * k) (hq1 Y i k s).1) 25 (4 * k + 1) (hq1 Y i k s).2) := by
  obtain ⟨x1, x2, x3, x4⟩ := hX
  have k24 : k < 24 := by omega
  rw [m_findsHeight_63, r3, if_neg (nI_ge hk (by omega)), if_pos (ix_nI k24 (by omega)), tn_nI (show k < 2 ^ 31 by omega), r5, if_pos rfl, if_neg r28, if_pos (og3 k24), of3 k24, x1, bnd_s, i43, if_pos (ix_nI (by omega) (by omega)), tn_nI (show 4 * k + 3 < 2 ^ 31 by omega), x4, bnd_s, if_neg (by decide), if_neg (by decide), i41, i42, nx4, if_pos (ix_nI (by omega) (by omega)), tn_nI (show 4 * k < 2 ^ 31 by omega), bnd_s, if_pos (ix_nI (by omega) (by omega)), tn_nI (show 4 * k + 1 < 2 ^ 31 by omega), bnd_s, if_pos ⟨fun _ => ix_nI (by omega) (by omega), fun z => absurd rfl z⟩, if_pos rfl, tn_nI (show 4 * k + 2 < 2 ^ 31 by omega), u2_ne (by omega), u2_ne (by omega), x3, bnd_s, bnd_s, if_pos (og4 k24), of4 k24, u2_row (by decide), u2_row (by decide), x2, bnd_s, bnd_s, nI_1, nI_1]
  rfl
theorem st2 {Y : MM} {n p t : Nat} {Wd : Int32} (h24 : n ≤ 24) (ht : 0 < t) (ht7 : t < 7) {fu i k : Nat} {s : S4} {S1 : MM} {K : Int32 → Int32 → Int32 → MM → Option MM} (hk : k < n) (hik : i ≤ k) (r3 : S1 3 0 = nI n) (r5 : S1 5 k = nI p) (r28 : ¬ S1 28 k = 0) (hX : HX S1 Y k) :
    m_findsHeight_63 K (nI p) 2 (nI t) Wd (fu + 1) s.1 s.2.1 s.2.2.1 s.2.2.2 (nI i) (nI k) S1 = m_findsHeight_63 K (nI p) 2 (nI t) Wd fu (hs2 Y Wd t i k s).1 (hs2 Y Wd t i k s).2.1 (hs2 Y Wd t i k s).2.2.1 (hs2 Y Wd t i k s).2.2.2 (nI (i + 1)) (nI (k + 1)) (u2 (u2 S1 25 (4 * k) (hq2 Y Wd t i k s).1) 25 (4 * k + 1) (hq2 Y Wd t i k s).2) := by
  obtain ⟨x1, x2, x3, x4⟩ := hX
  have k24 : k < 24 := by omega
  have ht0 : ¬ nI t = 0 := nI_ne0 ht (by omega)
  have hm : nI i - nI i / nI t * nI t = nI (i % t) := pk_rem (by omega) ht (by omega)
  have hmt : i % t < t := Nat.mod_lt _ ht
  rw [m_findsHeight_63, r3, if_neg (nI_ge hk (by omega)), if_pos (ix_nI k24 (by omega)), tn_nI (show k < 2 ^ 31 by omega), r5, if_pos rfl, if_neg r28, if_pos (og3 k24), of3 k24, x1, bnd_s, i43, if_pos (ix_nI (by omega) (by omega)), tn_nI (show 4 * k + 3 < 2 ^ 31 by omega), x4, bnd_s, if_neg (by decide), if_pos rfl, if_pos ht0, hm, i41, i42, nx4]
  unfold hs2 hq2
  by_cases z : i % t = 0
  · rw [if_pos (show nI (i % t) = 0 by rw [z]; rfl), if_pos z, if_pos z, bnd_s, if_pos (ix_nI (by omega) (by omega)), tn_nI (show 4 * k < 2 ^ 31 by omega), bnd_s, if_pos (ix_nI (by omega) (by omega)), tn_nI (show 4 * k + 1 < 2 ^ 31 by omega), bnd_s, if_pos (fun y => absurd y (by decide)), if_neg (by decide), bnd_s, bnd_s, if_pos (og4 k24), of4 k24, u2_row (by decide), u2_row (by decide), x2, bnd_s, bnd_s, nI_1, nI_1]
    rfl
  · rw [if_neg (nI_ne0 (by omega) (by omega)), if_neg z, if_neg z, if_pos (ix_nI (by omega) (by omega)), tn_nI (show 4 * k < 2 ^ 31 by omega), bnd_s, if_pos (ix_nI (by omega) (by omega)), tn_nI (show 4 * k + 1 < 2 ^ 31 by omega), bnd_s, if_pos (fun y => absurd y (by decide)), if_neg (by decide), bnd_s, bnd_s, if_pos (og4 k24), of4 k24, u2_row (by decide), u2_row (by decide), x2, bnd_s, bnd_s, nI_1, nI_1]
    rfl
