/-! ===== what is found: widths, over a table ===== -/
/-- the width of its own, or otherwise a -/
def owY (Y : MM) (c : Nat) (a : Int32) : Int32 := capm (Y c 2) (if Y c 0 = -2 then a else Y c 0)
def auY (S Y : MM) (c : Nat) : Int32 := (if S 9 c = 0 then zLongest (S 8 c) else 0) * Y c 9
/-- the children with a box, in order -/
def kdk (S Y : MM) (p k : Nat) : List Nat := (List.range k).filter (fun c => decide (par S c = some p ∧ Y c 29 ≠ 0))
/-- lefts of a row -/
def rwL (w : Nat → Int32) : List Nat → Int32 → Nat → Int32
  | [], _, _ => 0
  | c :: cs, x, z => if z = c then x else rwL w cs (x + w c) z
def LEB (S Y : MM) (n : Nat) : Prop := Y 0 29 = (if Y 0 5 = 3 then 0 else 1) ∧ ∀ c p, c < n → par S c = some p → Y c 29 = if Y p 29 = 0 then 0 else if Y c 5 = 3 then 0 else 1
/-- widths and lefts of the children of p -/
def LEW (S Y : MM) (n p : Nat) : Prop := Y p 29 ≠ 0 →
  (Y p 5 = 1 → ∀ c, c ∈ kdk S Y p n → Y c 32 = shF (kdk S Y p n) (Y p 32) (fun c => Y c 6) (fun c => Y c 2) 25 (fun c => owY Y c (auY S Y c)) (fun _ => 0) c ∧ Y c 30 = rwL (fun c => Y c 32) (kdk S Y p n) (Y p 30) c) ∧
  (Y p 5 = 2 → ∀ k c t, (kdk S Y p n)[k]? = some c → Y p 7 = nI t → 0 < t → t < 7 → Y c 32 = Y p 32 / nI t + (if Y p 32 - Y p 32 / nI t * nI t ≤ nI (k % t) then 0 else 1) ∧ Y c 30 = Y p 30 + nI (k % t) * (Y p 32 / nI t) + zMin (nI (k % t)) (Y p 32 - Y p 32 / nI t * nI t)) ∧
  (¬ Y p 5 = 1 → ¬ Y p 5 = 2 → ∀ c, c ∈ kdk S Y p n → Y c 32 = owY Y c (Y p 32) ∧ Y c 30 = Y p 30)
/-! ===== the model's functions: findsWidths ===== -/
theorem kdk_s {S Y : MM} {p k : Nat} : kdk S Y p (k + 1) = if par S k = some p ∧ Y k 29 ≠ 0 then kdk S Y p k ++ [k] else kdk S Y p k := by
  unfold kdk
  rw [List.range_succ, List.filter_append, List.filter_cons, List.filter_nil]
  by_cases q : par S k = some p ∧ Y k 29 ≠ 0
  · rw [if_pos (decide_eq_true_iff.mpr q), if_pos q]
  · rw [if_neg (fun z => q (decide_eq_true_iff.mp z)), if_neg q, List.append_nil]
theorem kdk_m {S Y : MM} {p k c : Nat} : c ∈ kdk S Y p k ↔ c < k ∧ par S c = some p ∧ Y c 29 ≠ 0 := by
  unfold kdk
  rw [List.mem_filter, List.mem_range, decide_eq_true_iff]
theorem kdk_n {S Y : MM} {p k : Nat} : (kdk S Y p k).Nodup := List.Nodup.sublist List.filter_sublist List.nodup_range
theorem kdk_l {S Y : MM} {p k : Nat} : (kdk S Y p k).length ≤ k := by
  have := List.length_filter_le (fun c => decide (par S c = some p ∧ Y c 29 ≠ 0)) (List.range k)
  rw [List.length_range] at this
  exact this
theorem wide9 {S : MM} {K : Int32 → Option Int32} : ∀ (f r : Nat), r < 10 ^ f → r < 2 ^ 31 → ∀ fu, f + 1 ≤ fu → ∀ a : Int32, m_widest_9 K S fu a (nI r) = K ((dg f r).foldl (fun s w => mxI s (nI w)) a) := by
  intro f
  induction f with
  | zero =>
    intro r hr h31 fu hf a
    obtain ⟨fu, rfl⟩ : ∃ z, fu = z + 1 := ⟨fu - 1, by omega⟩
    have : r = 0 := by
      rw [Nat.pow_zero] at hr
      omega
    subst this
    rw [m_widest_9, if_pos (by decide)]
    rfl
  | succ f ih =>
    intro r hr h31 fu hf a
    obtain ⟨fu, rfl⟩ : ∃ z, fu = z + 1 := ⟨fu - 1, by omega⟩
    rcases Nat.eq_zero_or_pos r with z | z
    · subst z
      rw [m_widest_9, if_pos (by decide), dg_z]
      rfl
    · rw [m_widest_9, if_neg (nI_nle z h31), show nI r - nI r / 10 * 10 = nI (r % 10) from pk_rem (d := 10) h31 (by decide) (by decide), show nI r / 10 = nI (r / 10) from pk_div (d := 10) h31 (by decide) (by decide), bnd_s, bnd_s, dg_s z, List.foldl_cons]
      have hm : (if nI (r % 10) ≤ a then a else nI (r % 10)) = mxI a (nI (r % 10)) := by
        unfold mxI
        by_cases q : nI (r % 10) ≤ a
        · rw [if_pos q, if_neg (Int32.not_lt.mpr q)]
        · rw [if_neg q, if_pos (Int32.not_le.mp q)]
      rw [hm]
      refine ih (r / 10) ?_ (by omega) fu (by omega) _
      rw [Nat.pow_succ, Nat.mul_comm] at hr
      exact Nat.div_lt_of_lt_mul hr
theorem widest_s {S : MM} {c wd : Nat} (hc : c < 24) (h8 : S 8 c = nI wd) (hw : wd < 100000000) : m_widest S (nI c) = some (zLongest (S 8 c) * S 23 (14 * c + 9)) := by
  unfold m_widest
  rw [if_pos (ix_nI hc (by omega)), tn_nI (by omega), h8, bnd_s, wide9 8 wd (by omega) (by omega) 1000 (by decide), if_pos (og9 hc), of9 hc]
  unfold zLongest
  rw [tn_nI (by omega)]
theorem fw24 {S Y : MM} {n p : Nat} (h : TS S n) (hp : p < n) (hB : LEB S Y n) (h28 : S 28 p = Y p 29) (hV : ∀ c, c < n → par S c = some p → S 23 (14 * c + 5) = Y c 5) :
    ∃ S' : MM, ((∀ j c, (kdk S Y p n)[j]? = some c → S' 34 j = nI c) ∧ (∀ c, c < n → par S c = some p → S' 28 c = Y c 29) ∧ (∀ c, ¬ (c < n ∧ par S c = some p) → S' 28 c = S 28 c) ∧ ∀ k, k ≠ 28 → k ≠ 34 → S' k = S k) ∧
      ∀ K, m_findsWidths_24 K (nI p) 1000 0 0 S = K (nI (kdk S Y p n).length) S' := by
  have h24 := h.2.2.1
  obtain ⟨s, ⟨i1, i2, i3, i4, i5⟩, e⟩ := lp_0 (σ := Int32 × MM) (α := Option MM) (L := fun K fu k s => m_findsWidths_24 (fun a b => K (a, b)) (nI p) fu s.1 (nI k) s.2) (n := n)
    (Inv := fun k s => s.1 = nI (kdk S Y p k).length ∧ (∀ j c, (kdk S Y p k)[j]? = some c → s.2 34 j = nI c) ∧ (∀ c, c < k → par S c = some p → s.2 28 c = Y c 29) ∧ (∀ c, ¬ (c < k ∧ par S c = some p) → s.2 28 c = S 28 c) ∧ ∀ k, k ≠ 28 → k ≠ 34 → s.2 k = S k)
    (fun K fu s hi => by
      show m_findsWidths_24 (fun a b => K (a, b)) (nI p) (fu + 1) s.1 (nI n) s.2 = K s
      rw [m_findsWidths_24, hi.2.2.2.2 3 (by decide) (by decide), h.1, if_pos (Int32.le_refl _)])
    (fun fu k s hk hi => by
      obtain ⟨x4, S1⟩ := s
      obtain ⟨i1, i2, i3, i4, i5⟩ : x4 = nI (kdk S Y p k).length ∧ (∀ j c, (kdk S Y p k)[j]? = some c → S1 34 j = nI c) ∧ (∀ c, c < k → par S c = some p → S1 28 c = Y c 29) ∧ (∀ c, ¬ (c < k ∧ par S c = some p) → S1 28 c = S 28 c) ∧ ∀ k, k ≠ 28 → k ≠ 34 → S1 k = S k := hi
      subst i1
      have hlk := kdk_l (S := S) (Y := Y) (p := p) (k := k)
      have hk24 : k < 24 := by omega
      have hp24 : p < 24 := by omega
      have e0 : ∀ K : Int32 × MM → Option MM, m_findsWidths_24 (fun a b => K (a, b)) (nI p) (fu + 1) (nI (kdk S Y p k).length) (nI k) S1 =
          if par S k = some p then (if Y k 29 = 0 then m_findsWidths_24 (fun a b => K (a, b)) (nI p) fu (nI (kdk S Y p k).length) (nI (k + 1)) (u2 S1 28 k 0) else m_findsWidths_24 (fun a b => K (a, b)) (nI p) fu (nI ((kdk S Y p k).length + 1)) (nI (k + 1)) (u2 (u2 S1 28 k (Y k 29)) 34 (kdk S Y p k).length (nI k)))
          else m_findsWidths_24 (fun a b => K (a, b)) (nI p) fu (nI (kdk S Y p k).length) (nI (k + 1)) S1 := fun K => by
        rw [m_findsWidths_24, i5 3 (by decide) (by decide), h.1, if_neg (nI_ge hk (by omega)), if_pos (ix_nI hk24 (by omega)), tn_nI (by omega), i5 5 (by decide) (by decide)]
        by_cases q : par S k = some p
        · have hpk := ((par_S h hk).2 p q).1
          have hpp : S1 28 p = Y p 29 := by
            rw [i4 p (fun z => absurd ((par_S h hp).2 p z.2).1 (by omega))]
            exact h28
          have hy : (if Y p 29 = 0 then (0 : Int32) else if Y k 5 = 3 then 0 else 1) = Y k 29 := (hB.2 k p hk q).symm
          have h01 : Y k 29 = 0 ∨ Y k 29 = 1 := by
            rw [← hy]
            by_cases a : Y p 29 = 0
            · rw [if_pos a]; exact Or.inl rfl
            · rw [if_neg a]
              by_cases b : Y k 5 = 3
              · rw [if_pos b]; exact Or.inl rfl
              · rw [if_neg b]; exact Or.inr rfl
          rw [if_pos q, if_pos ((par_iff h hk (by omega)).mpr q), if_pos (ix_nI hp24 (by omega)), if_pos (fun _ => og5 hk24), of5 hk24, i5 23 (by decide) (by decide), hV k hk q, tn_nI (by omega), hpp, hy, bnd_s, if_pos h01, bnd_s, u2_self, nI_1]
          by_cases a : Y k 29 = 0
          · rw [if_pos a, if_pos a, a]
          · rw [if_neg a, if_neg a, if_pos (ix_nI (by omega) (by omega)), tn_nI (by omega), bnd_s, nI_1]
        · rw [if_neg q, if_neg (fun z => q ((par_iff h hk (by omega)).mp z)), nI_1]
      by_cases q : par S k = some p
      · have key : ∀ s' : MM, (∀ j c, (kdk S Y p (k + 1))[j]? = some c → s' 34 j = nI c) → s' 28 k = Y k 29 → (∀ c, c ≠ k → s' 28 c = S1 28 c) → (∀ i, i ≠ 28 → i ≠ 34 → s' i = S1 i) →
            (∀ j c, (kdk S Y p (k + 1))[j]? = some c → s' 34 j = nI c) ∧ (∀ c, c < k + 1 → par S c = some p → s' 28 c = Y c 29) ∧ (∀ c, ¬ (c < k + 1 ∧ par S c = some p) → s' 28 c = S 28 c) ∧ ∀ k, k ≠ 28 → k ≠ 34 → s' k = S k := by
          intro s' k1 k2 k3 k4
          refine ⟨k1, fun c hc hcp => ?_, fun c hc => ?_, fun i a b => (k4 i a b).trans (i5 i a b)⟩
          · by_cases z : c = k
            · rw [z]; exact k2
            · rw [k3 c z]; exact i3 c (by omega) hcp
          · have z : c ≠ k := fun z => hc ⟨by omega, by rw [z]; exact q⟩
            rw [k3 c z]
            exact i4 c (fun y => hc ⟨by omega, y.2⟩)
        by_cases a : Y k 29 = 0
        · have ek : kdk S Y p (k + 1) = kdk S Y p k := by rw [kdk_s, if_neg (fun z => z.2 a)]
          refine ⟨(nI (kdk S Y p k).length, u2 S1 28 k 0), ⟨by rw [ek], key (u2 S1 28 k 0) (fun j c hj => ?_) ?_ (fun c hc => ?_) (fun i x y => ?_)⟩, fun K => (e0 K).trans ((if_pos q).trans (if_pos a))⟩
          · rw [ek] at hj
            rw [u2_row (by decide)]
            exact i2 j c hj
          · rw [u2_self, a]
          · rw [u2_ne (fun z => hc z.2)]
          · funext j
            rw [u2_row x]
        · have ek : kdk S Y p (k + 1) = kdk S Y p k ++ [k] := by rw [kdk_s, if_pos ⟨q, a⟩]
          refine ⟨(nI ((kdk S Y p k).length + 1), u2 (u2 S1 28 k (Y k 29)) 34 (kdk S Y p k).length (nI k)), ⟨by rw [ek, List.length_append]; rfl, key (u2 (u2 S1 28 k (Y k 29)) 34 (kdk S Y p k).length (nI k)) (fun j c hj => ?_) ?_ (fun c hc => ?_) (fun i x y => ?_)⟩, fun K => (e0 K).trans ((if_pos q).trans (if_neg a))⟩
          · rw [ek] at hj
            by_cases z : j = (kdk S Y p k).length
            · rw [z, List.getElem?_append_right (Nat.le_refl _), Nat.sub_self] at hj
              cases hj
              rw [z, u2_self]
            · rw [u2_ne (fun y => z y.2), u2_row (by decide)]
              have hjl := (List.getElem?_eq_some_iff.mp hj).1
              rw [List.length_append, List.length_singleton] at hjl
              rw [List.getElem?_append_left (by omega)] at hj
              exact i2 j c hj
          · rw [u2_row (by decide), u2_self]
          · rw [u2_row (by decide), u2_ne (fun z => hc z.2)]
          · funext j
            rw [u2_row y, u2_row x]
      · have ek : kdk S Y p (k + 1) = kdk S Y p k := by rw [kdk_s, if_neg (fun z => q z.1)]
        refine ⟨(nI (kdk S Y p k).length, S1), ⟨by rw [ek], by rw [ek]; exact i2, fun c hc hcp => ?_, fun c hc => ?_, i5⟩, fun K => (e0 K).trans (if_neg q)⟩
        · have z : c ≠ k := fun z => q (by rw [← z]; exact hcp)
          exact i3 c (by omega) hcp
        · exact i4 c (fun y => hc ⟨by omega, y.2⟩))
    (fu := 1000) (s := (0, S)) (by omega) ⟨rfl, fun j c hj => (by cases hj), fun c hc => absurd hc (Nat.not_lt_zero c), fun _ _ => rfl, fun _ _ _ => rfl⟩
  obtain ⟨x4, S'⟩ := s
  have i1' : x4 = nI (kdk S Y p n).length := i1
  subst i1'
  refine ⟨S', ⟨i2, i3, i4, i5⟩, fun K => ?_⟩
  have := e (fun s => K s.1 s.2)
  rw [nI_0] at this
  exact this
/-- the width with which one begins -/
def wi0 (S Y : MM) (Wd d : Int32) (t k c : Nat) : Int32 := if d = 2 then Wd / nI t + (if Wd - Wd / nI t * nI t ≤ nI (k % t) then 0 else 1) else owY Y c (if d = 1 then auY S Y c else Wd)
theorem fw107 {S S1 Y : MM} {n p t : Nat} {ks : List Nat} {Wd : Int32} (h24 : n ≤ 24) (hp : p < n) (hl : ks.length ≤ 24) (hnd : ks.Nodup) (hk : ∀ c, c ∈ ks → c < n) (h34 : ∀ j c, ks[j]? = some c → S1 34 j = nI c) (h9 : S1 9 = S 9) (h8 : S1 8 = S 8)
    (hV : ∀ c, c ∈ ks → ∀ q, q < 14 → S1 23 (14 * c + q) = Y c q) (hp7 : S1 23 (14 * p + 7) = nI t) (ht : 0 < t) (ht7 : t < 7) (hw : ∀ c, c ∈ ks → ∃ wd, wd < 100000000 ∧ S 8 c = nI wd) (d : Int32) :
    ∃ S' : MM, ((∀ j c, ks[j]? = some c → S' 25 (4 * c + 2) = wi0 S Y Wd d t j c ∧ S' 35 j = 0) ∧ (∀ i, (∀ c, c ∈ ks → i ≠ 4 * c + 2) → S' 25 i = S1 25 i) ∧ ∀ k, k ≠ 25 → k ≠ 35 → S' k = S1 k) ∧
      ∀ K, m_findsWidths_107 K (nI p) Wd d (nI ks.length) 1000 0 S1 = K S' := by
  obtain ⟨s, ⟨i1, i2, i3⟩, e⟩ := lp_0 (σ := MM) (α := Option MM) (L := fun K fu k s => m_findsWidths_107 K (nI p) Wd d (nI ks.length) fu (nI k) s) (n := ks.length)
    (Inv := fun k s => (∀ j c, j < k → ks[j]? = some c → s 25 (4 * c + 2) = wi0 S Y Wd d t j c ∧ s 35 j = 0) ∧ (∀ i, (∀ c, c ∈ ks → i ≠ 4 * c + 2) → s 25 i = S1 25 i) ∧ ∀ k, k ≠ 25 → k ≠ 35 → s k = S1 k)
    (fun K fu s hi => by
      show m_findsWidths_107 K (nI p) Wd d (nI ks.length) (fu + 1) (nI ks.length) s = K s
      rw [m_findsWidths_107, if_pos (Int32.le_refl _)])
    (fun fu k s hkl hi => by
      obtain ⟨i1, i2, i3⟩ := hi
      obtain ⟨c, hc⟩ := at_k hkl
      have hm := List.mem_of_getElem? hc
      have hcn := hk c hm
      have c24 : c < 24 := by omega
      have k24 : k < 24 := by omega
      have p24 : p < 24 := by omega
      have r34 : s 34 k = nI c := by rw [i3 34 (by decide) (by decide)]; exact h34 k c hc
      have r23 : s 23 = S1 23 := i3 23 (by decide) (by decide)
      have r9 : s 9 = S 9 := (i3 9 (by decide) (by decide)).trans h9
      have r8 : s 8 = S 8 := (i3 8 (by decide) (by decide)).trans h8
      obtain ⟨wd, wd1, wd2⟩ := hw c hm
      have hwi := widest_s (S := s) c24 (by rw [r8]; exact wd2) wd1
      rw [r8, r23, hV c hm 9 (by decide)] at hwi
      refine ⟨u2 (u2 s 25 (4 * c + 2) (wi0 S Y Wd d t k c)) 35 k 0, ⟨fun j b hj hb => ?_, fun i hi => ?_, fun i a b => ?_⟩, fun K => ?_⟩
      · by_cases q : j = k
        · subst q
          rw [hc] at hb
          cases hb
          rw [u2_row (by decide), u2_self, u2_self]
          exact ⟨rfl, rfl⟩
        · have hne : b ≠ c := fun z => by
            subst z
            exact q ((List.getElem?_inj (List.getElem?_eq_some_iff.mp hb).1 hnd).mp (hb.trans hc.symm))
          rw [u2_row (by decide), u2_ne (fun z => hne (by omega)), u2_ne (fun z => q z.2), u2_row (by decide)]
          exact i1 j b (by omega) hb
      · rw [u2_row (by decide), u2_ne (fun z => hi c hm z.2)]
        exact i2 i hi
      · funext j
        rw [u2_row b, u2_row a, i3 i a b]
      · show m_findsWidths_107 K (nI p) Wd d (nI ks.length) (fu + 1) (nI k) s = m_findsWidths_107 K (nI p) Wd d (nI ks.length) fu (nI (k + 1)) (u2 (u2 s 25 (4 * c + 2) (wi0 S Y Wd d t k c)) 35 k 0)
        rw [m_findsWidths_107, if_neg (nI_ge hkl (by omega)), if_pos (ix_nI k24 (by omega)), tn_nI (show k < 2 ^ 31 by omega), r34, bnd_s, if_pos (og0 c24), of0 c24, r23, hV c hm 0 (by decide), bnd_s, if_pos (og7 p24), of7 p24, r23, hp7, bnd_s, if_pos (nI_ne0 ht (by omega)), show nI k - nI k / nI t * nI t = nI (k % t) from pk_rem (by omega) ht (by omega), bnd_s, bnd_s, nI_1, i42]
        unfold wi0
        by_cases d1 : d = 1
        · have d2 : ¬ d = 2 := by rw [d1]; decide
          rw [if_pos d1, if_pos (ix_nI c24 (by omega)), tn_nI (show c < 2 ^ 31 by omega), r9]
          by_cases z : S 9 c = 0
          · rw [if_pos z, hwi, bd_s, if_pos (fun _ => og2 c24), if_neg d2, cap_n c24, r23, hV c hm 2 (by decide), bnd_s, if_pos (ix_nI (by omega) (by omega)), bnd_s, bnd_s, tn_nI (by omega), if_neg d2, if_pos d1]
            unfold owY auY
            rw [if_pos z]
          · rw [if_neg z, if_pos (fun _ => og2 c24), if_neg d2, cap_n c24, r23, hV c hm 2 (by decide), bnd_s, if_pos (ix_nI (by omega) (by omega)), bnd_s, bnd_s, tn_nI (by omega), if_neg d2, if_pos d1]
            unfold owY auY
            rw [if_neg z, Int32.zero_mul]
        · rw [if_neg d1, if_pos (fun _ => og2 c24)]
          by_cases d2 : d = 2
          · rw [if_pos d2, bnd_s, if_pos (ix_nI (by omega) (by omega)), bnd_s, bnd_s, tn_nI (by omega), if_pos d2]
          · rw [if_neg d2, cap_n c24, r23, hV c hm 2 (by decide), bnd_s, if_pos (ix_nI (by omega) (by omega)), bnd_s, bnd_s, tn_nI (by omega), if_neg d2, if_neg d1]
            rfl)
    (fu := 1000) (s := S1) (by omega) ⟨fun j c hj => absurd hj (Nat.not_lt_zero j), fun _ _ => rfl, fun _ _ _ => rfl⟩
  rw [nI_0] at e
  exact ⟨s, ⟨fun j c hc => i1 j c (List.getElem?_eq_some_iff.mp hc).1 hc, i2, i3⟩, e⟩
/-- what is told of texts -/
def WDo (S : MM) (n : Nat) : Prop := ∀ c, c < n → ∃ wd, wd < 100000000 ∧ S 8 c = nI wd
theorem findsWidths_s {S Y : MM} {n p t : Nat} (h : TS S n) (hp : p < n) (hW : WDo S n) (hB : LEB S Y n) (hL : LEW S Y n p) (h28 : S 28 p = Y p 29) (h32 : Y p 29 ≠ 0 → S 25 (4 * p + 2) = Y p 32) (hVp : ∀ q, q < 14 → S 23 (14 * p + q) = Y p q)
    (hV : ∀ c, c < n → par S c = some p → ∀ q, q < 14 → S 23 (14 * c + q) = Y c q) (ht : Y p 7 = nI t) (ht0 : 0 < t) (ht7 : t < 7) :
    ∃ S', m_findsWidths S (nI p) = some S' ∧ (∀ c, c < n → par S c = some p → S' 28 c = Y c 29 ∧ (Y c 29 ≠ 0 → S' 25 (4 * c + 2) = Y c 32)) ∧ (∀ c, ¬ (c < n ∧ par S c = some p) → S' 28 c = S 28 c) ∧
      (∀ i, (∀ c, c < n → par S c = some p → Y c 29 ≠ 0 → i ≠ 4 * c + 2) → S' 25 i = S 25 i) ∧ ∀ k, k ≠ 25 → k ≠ 28 → k ≠ 34 → k ≠ 35 → k ≠ 38 → k ≠ 39 → S' k = S k := by
  have h24 := h.2.2.1
  have p24 : p < 24 := by omega
  obtain ⟨S1, ⟨a1, a2, a3, a4⟩, e1⟩ := fw24 h hp hB h28 (fun c hc hcp => hV c hc hcp 5 (by decide))
  have hmem : ∀ c, c ∈ kdk S Y p n → c < n ∧ par S c = some p ∧ Y c 29 ≠ 0 := fun c hc => kdk_m.mp hc
  have r23 : S1 23 = S 23 := a4 23 (by decide) (by decide)
  have hks : ¬ Y p 29 = 0 ∨ kdk S Y p n = [] := by
    by_cases z : Y p 29 = 0
    · refine Or.inr (List.eq_nil_iff_forall_not_mem.mpr (fun c hc => ?_))
      obtain ⟨x, y, w⟩ := hmem c hc
      rw [hB.2 c p x y, if_pos z] at w
      exact w rfl
    · exact Or.inl z
  have hl : (kdk S Y p n).length ≤ 24 := Nat.le_trans kdk_l h24
  have hnd := kdk_n (S := S) (Y := Y) (p := p) (k := n)
  obtain ⟨Wd, eW⟩ : ∃ Wd, Wd = S 25 (4 * p + 2) := ⟨_, rfl⟩
  have hWd : ¬ Y p 29 = 0 → Wd = Y p 32 := fun z => by rw [eW]; exact h32 z
  obtain ⟨S2, ⟨b1, b2, b3⟩, e2⟩ := fw107 (S := S) (Y := Y) (Wd := Wd) (ks := kdk S Y p n) h24 hp hl hnd (fun c hc => (hmem c hc).1) a1 (a4 9 (by decide) (by decide)) (a4 8 (by decide) (by decide))
    (fun c hc q hq => by rw [r23]; exact hV c (hmem c hc).1 (hmem c hc).2.1 q hq) (by rw [r23, hVp 7 (by decide)]; exact ht) ht0 ht7 (fun c hc => hW c (hmem c hc).1) (Y p 5)
  have eF : m_findsWidths S (nI p) = if Y p 5 = 1 then (bd (m_shares S2 (nI (kdk S Y p n).length) Wd) fun S112 => some S112) else some S2 := by
    unfold m_findsWidths
    rw [i42, if_pos (ix_nI (by omega) (by omega)), tn_nI (by omega), bnd_s, if_pos (og5 p24), of5 p24, hVp 5 (by decide), bnd_s, e1, ← eW, e2]
  rw [eF]
  have fin : ∀ S' : MM, (∀ (k c : Nat), (kdk S Y p n)[k]? = some c → S' 25 (4 * c + 2) = Y c 32) → (∀ i, (∀ c, c ∈ kdk S Y p n → i ≠ 4 * c + 2) → S' 25 i = S2 25 i) → (∀ k, k ≠ 25 → k ≠ 35 → k ≠ 38 → k ≠ 39 → S' k = S2 k) →
      (∀ c, c < n → par S c = some p → S' 28 c = Y c 29 ∧ (Y c 29 ≠ 0 → S' 25 (4 * c + 2) = Y c 32)) ∧ (∀ c, ¬ (c < n ∧ par S c = some p) → S' 28 c = S 28 c) ∧
      (∀ i, (∀ c, c < n → par S c = some p → Y c 29 ≠ 0 → i ≠ 4 * c + 2) → S' 25 i = S 25 i) ∧ ∀ k, k ≠ 25 → k ≠ 28 → k ≠ 34 → k ≠ 35 → k ≠ 38 → k ≠ 39 → S' k = S k := by
    intro S' f1 f2 f3
    have e28 : S' 28 = S1 28 := (f3 28 (by decide) (by decide) (by decide) (by decide)).trans (b3 28 (by decide) (by decide))
    refine ⟨fun c hc hcp => ⟨by rw [e28]; exact a2 c hc hcp, fun z => ?_⟩, fun c hc => by rw [e28]; exact a3 c hc, fun i hi => ?_, fun k x1 x2 x3 x4 x5 x6 => (f3 k x1 x4 x5 x6).trans ((b3 k x1 x4).trans (a4 k x2 x3))⟩
    · obtain ⟨k, hk⟩ := List.getElem?_of_mem (kdk_m.mpr ⟨hc, hcp, z⟩)
      exact f1 k c hk
    · have hi' : ∀ c, c ∈ kdk S Y p n → i ≠ 4 * c + 2 := fun c hc => hi c (hmem c hc).1 (hmem c hc).2.1 (hmem c hc).2.2
      rw [f2 i hi', b2 i hi', a4 25 (by decide) (by decide)]
  by_cases d1 : Y p 5 = 1
  · have d2 : ¬ Y p 5 = 2 := by rw [d1]; decide
    rw [if_pos d1]
    have hX : SX S2 (kdk S Y p n) (fun c => owY Y c (auY S Y c)) (fun _ => 0) (fun c => Y c 6) (fun c => Y c 2) := fun k c hc => by
      have hm := List.mem_of_getElem? hc
      obtain ⟨x, y, z⟩ := hmem c hm
      have hkl := (List.getElem?_eq_some_iff.mp hc).1
      obtain ⟨w1, w2⟩ := b1 k c hc
      unfold wi0 at w1
      rw [if_neg d2, if_pos d1] at w1
      have s23 : S2 23 = S 23 := (b3 23 (by decide) (by decide)).trans r23
      exact ⟨by omega, by omega, by rw [b3 34 (by decide) (by decide)]; exact a1 k c hc, w1, w2, by rw [s23]; exact hV c x y 6 (by decide), by rw [s23]; exact hV c x y 2 (by decide)⟩
    obtain ⟨S3, f1, f2, f3, f4⟩ := shares_l hl hnd 25 (fun c => owY Y c (auY S Y c)) (fun _ => 0) S2 1000 (by
      have := shC_le (kdk S Y p n) (fun _ => 0)
      omega) (by decide) hX (fun c _ => Or.inl rfl) (Wd := Wd)
    refine ⟨S3, ?_, fin S3 (fun k c hc => ?_) f3 f4⟩
    · unfold m_shares
      rw [f1, bd_s]
    · have hm := List.mem_of_getElem? hc
      rw [f2 c hm]
      rcases hks with z | z
      · rw [hWd z, ((hL z).1 d1 c hm).1]
      · rw [z] at hm
        cases hm
  · rw [if_neg d1]
    refine ⟨S2, rfl, fin S2 (fun k c hc => ?_) (fun _ _ => rfl) (fun _ _ _ _ _ => rfl)⟩
    have hm := List.mem_of_getElem? hc
    rcases hks with z | z
    · rw [(b1 k c hc).1]
      unfold wi0
      by_cases d2 : Y p 5 = 2
      · rw [if_pos d2, hWd z, ((hL z).2.1 d2 k c t hc ht ht0 ht7).1]
      · rw [if_neg d2, if_neg d1, hWd z, ((hL z).2.2 d1 d2 c hm).1]
    · rw [z] at hm
      cases hm
