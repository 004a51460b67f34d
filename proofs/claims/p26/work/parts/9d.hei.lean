/-! ===== the model's functions: findsHeight ===== -/
theorem mxI_m (a b : Int32) : mxI a b = mxm b a := by
  unfold mxI mxm
  by_cases q : a < b
  · rw [if_pos q, if_neg (Int32.not_le.mpr q)]
  · rw [if_neg q, if_pos (Int32.not_lt.mp q)]
theorem mxI_0 {a : Int32} (h : 0 ≤ a) : mxI 0 a = a := by
  rw [mxI_m]
  unfold mxm
  by_cases q : a ≤ 0
  · rw [if_pos q]
    rw [i_le] at h q
    rw [i_eq]
    omega
  · rw [if_neg q]
theorem nd_c {c : Nat} {cs : List Nat} (h : (c :: cs).Nodup) {z : Nat} (hz : z ∈ cs) : z ≠ c := fun q => (List.nodup_cons.mp h).1 (by rw [← q]; exact hz)
theorem hr0 {Y : MM} : ∀ (ks : List Nat) (i : Nat) (s : S4), ks.Nodup → (∀ c, c ∈ ks → 0 ≤ Y c 3) → (i = 0 → s.2.2.2 = 0) →
    sbE (fun c => Y c 3) (fun c => Y c 33) (fun c => Y c 4) ks s.1 s.2.2.2 = (hf (hs0 Y) ks i s).1 + (hf (hs0 Y) ks i s).2.2.2 ∧ (hf (hs0 Y) ks i s).2.2.1 = s.2.2.1 ∧ ∀ z, z ∈ ks → hr (hs0 Y) (hq0 Y) ks i s z = (0, sbT (fun c => Y c 3) (fun c => Y c 33) (fun c => Y c 4) ks s.1 s.2.2.2 z)
  | [], i, s, _, _, _ => ⟨rfl, rfl, fun z hz => by cases hz⟩
  | c :: cs, i, s, hn, hA, h0 => by
    have hm : (if i = 0 then Y c 3 else mxm (Y c 3) s.2.2.2) = mxI s.2.2.2 (Y c 3) := by
      by_cases q : i = 0
      · rw [if_pos q, h0 q, mxI_0 (hA c List.mem_cons_self)]
      · rw [if_neg q, mxI_m]
    have e1 : hs0 Y i c s = (s.1 + mxI s.2.2.2 (Y c 3) + Y c 33, s.2.1, s.2.2.1, Y c 4) := by
      unfold hs0
      rw [hm]
    have e2 : hq0 Y i c s = (0, s.1 + mxI s.2.2.2 (Y c 3)) := by
      unfold hq0
      rw [hm]
    obtain ⟨a1, a2, a3⟩ := hr0 cs (i + 1) (hs0 Y i c s) (List.nodup_cons.mp hn).2 (fun d hd => hA d (List.mem_cons_of_mem _ hd)) (fun z => by omega)
    rw [e1] at a1 a2 a3
    refine ⟨?_, ?_, fun z hz => ?_⟩
    · rw [sbE, hf, e1]
      exact a1
    · rw [hf, e1]
      exact a2
    · rw [hr, sbT, e1, e2]
      by_cases q : z = c
      · rw [if_pos q, if_pos q]
      · rw [if_neg q, if_neg q]
        exact a3 z ((List.mem_cons.mp hz).resolve_left q)
theorem hr1 {Y : MM} : ∀ (ks : List Nat) (i : Nat) (s : S4), ks.Nodup → i + ks.length ≤ 24 →
    srE 24 (fun c => Y c 3) (fun c => Y c 33) (fun c => Y c 4) ks s.1 s.2.2.1 (nI i) = (hf (hs1 Y) ks i s).1 + (hf (hs1 Y) ks i s).2.2.1 ∧ (hf (hs1 Y) ks i s).2.2.2 = s.2.2.2 ∧
    ∀ z, z ∈ ks → hr (hs1 Y) (hq1 Y) ks i s z = (rwL (fun c => Y c 32) ks s.2.1 z, srT 24 (fun c => Y c 3) (fun c => Y c 33) (fun c => Y c 4) ks s.1 s.2.2.1 (nI i) z)
  | [], i, s, _, _ => ⟨rfl, rfl, fun z hz => by cases hz⟩
  | c :: cs, i, s, hn, hl => by
    rw [List.length_cons] at hl
    have hlt : nI i < (24 : Int32) := nI_lt (b := 24) (by omega) (by decide)
    obtain ⟨a1, a2, a3⟩ := hr1 cs (i + 1) (hs1 Y i c s) (List.nodup_cons.mp hn).2 (by omega)
    have e1 : hs1 Y i c s = (s.1, s.2.1 + Y c 32, mxI s.2.2.1 (Y c 3 + Y c 33 + Y c 4), s.2.2.2) := by
      unfold hs1
      rw [mxI_m]
    rw [e1] at a1 a2 a3
    refine ⟨?_, ?_, fun z hz => ?_⟩
    · rw [srE, if_pos hlt, hf, e1, nI_1]
      exact a1
    · rw [hf, e1]
      exact a2
    · rw [hr, srT, rwL, if_pos hlt, e1, nI_1]
      by_cases q : z = c
      · rw [if_pos q, if_pos q, if_pos q]
        rfl
      · rw [if_neg q, if_neg q, if_neg q]
        exact a3 z ((List.mem_cons.mp hz).resolve_left q)
/-- the column in which the class counts -/
def gcl (t i : Nat) : Nat := if i = 0 then 0 else (i - 1) % t + 1
theorem gcl_s {t i : Nat} (h : 0 < t) (h7 : t < 7) : gcl t (i + 1) = i % t + 1 ∧ (i % t = 0 → i ≠ 0 → gcl t i = t) ∧ (i % t ≠ 0 → gcl t i = i % t) ∧ (i % t + 1 < t → (i + 1) % t = i % t + 1) ∧ (i % t + 1 = t → (i + 1) % t = 0) := by
  unfold gcl
  have : t = 1 ∨ t = 2 ∨ t = 3 ∨ t = 4 ∨ t = 5 ∨ t = 6 := by omega
  rcases this with rfl | rfl | rfl | rfl | rfl | rfl <;> (refine ⟨?_, fun a b => ?_, fun a => ?_, fun a => ?_, fun a => ?_⟩ <;> (try rw [if_neg (by omega)]) <;> omega)
/-- the left of the column -/
def glf (Wd : Int32) (t i : Nat) : Int32 := nI (i % t) * (Wd / nI t) + zMin (nI (i % t)) (Wd - Wd / nI t * nI t)
theorem glf_s {Wd : Int32} {t i : Nat} (h : 0 < t) (h7 : t < 7) (hn : (i + 1) % t ≠ 0) : glf Wd t (i + 1) = glf Wd t i + gcw Wd t i := by
  obtain ⟨-, -, -, g4, g5⟩ := gcl_s (i := i) h h7
  have hlt := Nat.mod_lt i h
  have hi : i % t + 1 < t := by
    rcases Nat.lt_or_ge (i % t + 1) t with q | q
    · exact q
    · exact absurd (g5 (by omega)) hn
  unfold glf gcw
  rw [g4 hi]
  generalize i % t = c at hi hlt ⊢
  generalize Wd / nI t = x
  generalize Wd - x * nI t = y
  have e1 : nI (c + 1) * x = nI c * x + x := by
    rw [← nI_1, Int32.add_mul, Int32.one_mul]
  have c1 : (nI (c + 1)).toInt = (c : Int) + 1 := by
    rw [nI_toInt (by omega)]
    rfl
  have c2 : (nI c).toInt = (c : Int) := nI_toInt (by omega)
  have e2 : zMin (nI (c + 1)) y = zMin (nI c) y + (if y ≤ nI c then 0 else 1) := by
    unfold zMin
    by_cases q : y ≤ nI c
    · rw [if_pos q, Int32.add_zero]
      have q' := (i_le _ _).mp q
      rw [if_pos ((i_lt _ _).mpr (by omega))]
      by_cases z : y < nI c
      · rw [if_pos z]
      · rw [if_neg z]
        rw [i_eq]
        rw [i_lt] at z
        omega
    · have q' : ¬ y.toInt ≤ (nI c).toInt := fun z => q ((i_le _ _).mpr z)
      rw [if_neg q, if_neg (fun z => by have := (i_lt _ _).mp z; omega), if_neg (fun z => by have := (i_lt _ _).mp z; omega), nI_1]
  rw [e1, e2]
  ac_rfl
theorem hr2 {Y : MM} {Wd : Int32} {t : Nat} (h : 0 < t) (h7 : t < 7) (hW : ¬ Wd - Wd / nI t * nI t < 0) : ∀ (ks : List Nat) (i : Nat) (s : S4), ks.Nodup → i + ks.length ≤ 24 → (i = 0 → s.2.2.1 = 0) → (i % t ≠ 0 → s.2.1 = glf Wd t i) →
    srE (nI t) (fun c => Y c 3) (fun c => Y c 33) (fun c => Y c 4) ks s.1 s.2.2.1 (nI (gcl t i)) = (hf (hs2 Y Wd t) ks i s).1 + (hf (hs2 Y Wd t) ks i s).2.2.1 ∧ (hf (hs2 Y Wd t) ks i s).2.2.2 = s.2.2.2 ∧
    ∀ j z, ks[j]? = some z → hr (hs2 Y Wd t) (hq2 Y Wd t) ks i s z = (glf Wd t (i + j), srT (nI t) (fun c => Y c 3) (fun c => Y c 33) (fun c => Y c 4) ks s.1 s.2.2.1 (nI (gcl t i)) z)
  | [], i, s, _, _, _, _ => ⟨rfl, rfl, fun j z hz => by cases hz⟩
  | c :: cs, i, s, hn, hl, h0, hl0 => by
    rw [List.length_cons] at hl
    obtain ⟨g1, g2, g3, g4, g5⟩ := gcl_s (i := i) h h7
    have hlt := Nat.mod_lt i h
    have hg0 : i % t = 0 → glf Wd t i = 0 := fun z => by
      unfold glf zMin
      rw [z, nI_0, Int32.zero_mul, if_neg hW, Int32.add_zero]
    have hnx : (i + 1) % t ≠ 0 → (hs2 Y Wd t i c s).2.1 = glf Wd t (i + 1) := fun z => by
      rw [glf_s h h7 z]
      unfold hs2
      by_cases q : i % t = 0
      · rw [if_pos q, hg0 q]
      · rw [if_neg q, ← hl0 q]
    obtain ⟨a1, a2, a3⟩ := hr2 h h7 hW cs (i + 1) (hs2 Y Wd t i c s) (List.nodup_cons.mp hn).2 (by omega) (fun z => by omega) hnx
    have hj : ∀ j z, (c :: cs)[j]? = some z → z ≠ c → ∃ k, j = k + 1 ∧ cs[k]? = some z := fun j z hz hne => by
      cases j with
      | zero =>
        rw [List.getElem?_cons_zero] at hz
        cases hz
        exact absurd rfl hne
      | succ k => exact ⟨k, rfl, by rw [List.getElem?_cons_succ] at hz; exact hz⟩
    have hj0 : ∀ j, (c :: cs)[j]? = some c → j = 0 := fun j hz => by
      cases j with
      | zero => rfl
      | succ k =>
        rw [List.getElem?_cons_succ] at hz
        exact absurd rfl (nd_c hn (List.mem_of_getElem? hz))
    -- the branch where a row begins, and where it goes on
    have br : (gcl t i < t ∧ hs2 Y Wd t i c s = (s.1, (hs2 Y Wd t i c s).2.1, mxI s.2.2.1 (Y c 3 + Y c 33 + Y c 4), s.2.2.2) ∧ nI (gcl t i) + 1 = nI (gcl t (i + 1)) ∧ (hq2 Y Wd t i c s).2 = s.1 + Y c 3) ∨
        (¬ gcl t i < t ∧ gcl t i < 2 ^ 31 ∧ hs2 Y Wd t i c s = (s.1 + s.2.2.1, (hs2 Y Wd t i c s).2.1, mxI 0 (Y c 3 + Y c 33 + Y c 4), s.2.2.2) ∧ (0 : Int32) + 1 = nI (gcl t (i + 1)) ∧ (hq2 Y Wd t i c s).2 = s.1 + s.2.2.1 + Y c 3) := by
      by_cases q : i % t = 0
      · by_cases z : i = 0
        · left
          have hg : gcl t i = 0 := by unfold gcl; rw [if_pos z]
          refine ⟨by omega, ?_, ?_, ?_⟩
          · unfold hs2
            rw [if_pos q, h0 z, Int32.add_zero, mxI_m]
          · rw [g1, hg, q]
            rfl
          · unfold hq2
            rw [if_pos q, h0 z, Int32.add_zero]
        · right
          have hg := g2 q z
          refine ⟨by omega, by omega, ?_, ?_, ?_⟩
          · unfold hs2
            rw [if_pos q, mxI_m]
          · rw [g1, q]
            rfl
          · unfold hq2
            rw [if_pos q]
      · left
        have hg := g3 q
        refine ⟨by omega, ?_, ?_, ?_⟩
        · unfold hs2
          rw [if_neg q, mxI_m]
        · rw [g1, hg, nI_1]
        · unfold hq2
          rw [if_neg q]
    have hql : (hq2 Y Wd t i c s).1 = glf Wd t i := by
      unfold hq2
      by_cases q : i % t = 0
      · rw [if_pos q, hg0 q]
      · rw [if_neg q, hl0 q]
    obtain ⟨s', es⟩ : ∃ s', s' = hs2 Y Wd t i c s := ⟨_, rfl⟩
    obtain ⟨q', eq'⟩ : ∃ q', q' = hq2 Y Wd t i c s := ⟨_, rfl⟩
    rw [← es] at a1 a2 a3 br
    rw [← eq'] at br hql
    have p4 : s'.2.2.2 = s.2.2.2 := by
      rcases br with ⟨-, b2, -⟩ | ⟨-, -, b2, -⟩
      · rw [b2]
      · rw [b2]
    have hg31 : gcl t i < 2 ^ 31 := by
      rcases br with ⟨b1, -⟩ | ⟨-, b1, -⟩
      · omega
      · exact b1
    refine ⟨?_, ?_, fun j z hz => ?_⟩
    · rw [srE, hf, ← es, ← a1]
      rcases br with ⟨b1, b2, b3, -⟩ | ⟨b1, -, b2, b3, -⟩
      · rw [if_pos (nI_lt b1 (by omega)), b3, show s'.1 = s.1 by rw [b2], show s'.2.2.1 = mxI s.2.2.1 (Y c 3 + Y c 33 + Y c 4) by rw [b2]]
      · rw [if_neg (nI_nlt (by omega) hg31), b3, show s'.1 = s.1 + s.2.2.1 by rw [b2], show s'.2.2.1 = mxI 0 (Y c 3 + Y c 33 + Y c 4) by rw [b2]]
    · rw [hf, ← es, a2, p4]
    · rw [hr, srT, ← es, ← eq']
      by_cases q : z = c
      · subst q
        rw [hj0 j hz, if_pos rfl, if_pos rfl, if_pos rfl, Nat.add_zero, ← hql]
        rcases br with ⟨b1, -, -, b4⟩ | ⟨b1, -, -, -, b4⟩
        · rw [if_pos (nI_lt b1 (by omega)), ← b4]
        · rw [if_neg (nI_nlt (by omega) hg31), ← b4]
      · obtain ⟨k, k1, k2⟩ := hj j z hz q
        rw [if_neg q, if_neg q, if_neg q, a3 k z k2, k1, show i + 1 + k = i + (k + 1) by omega]
        rcases br with ⟨b1, b2, b3, -⟩ | ⟨b1, -, b2, b3, -⟩
        · rw [if_pos (nI_lt b1 (by omega)), b3, show s'.1 = s.1 by rw [b2], show s'.2.2.1 = mxI s.2.2.1 (Y c 3 + Y c 33 + Y c 4) by rw [b2]]
        · rw [if_neg (nI_nlt (by omega) hg31), b3, show s'.1 = s.1 + s.2.2.1 by rw [b2], show s'.2.2.1 = mxI 0 (Y c 3 + Y c 33 + Y c 4) by rw [b2]]
theorem rwL_sh {w : Nat → Int32} : ∀ (ks : List Nat) (x y : Int32) (z : Nat), z ∈ ks → rwL w ks (x + y) z = rwL w ks x z + y
  | [], _, _, z, h => by cases h
  | c :: cs, x, y, z, h => by
    rw [rwL, rwL]
    by_cases q : z = c
    · rw [if_pos q, if_pos q]
    · rw [if_neg q, if_neg q, show x + y + w c = (x + w c) + y by ac_rfl]
      exact rwL_sh cs (x + w c) y z ((List.mem_cons.mp h).resolve_left q)
theorem findsHeight_s {S Y : MM} {n p t : Nat} (h : TS S n) (hp : p < n) (hW : WDo S n) (hL : LEW S Y n p) (hH : LEH S Y n p) (hb : Y p 29 ≠ 0) (hVp : ∀ q, q < 14 → S 23 (14 * p + q) = Y p q) (h32 : S 25 (4 * p + 2) = Y p 32) (h28 : ∀ c, c < n → par S c = some p → S 28 c = Y c 29) (hX : ∀ c, c ∈ kdk S Y p n → HX S Y c)
    (hA : ∀ c, c ∈ kdk S Y p n → 0 ≤ Y c 3) (ht : Y p 7 = nI t) (ht0 : 0 < t) (ht7 : t < 7) (hd : Y p 5 = 0 ∨ Y p 5 = 1 ∨ Y p 5 = 2) (hw0 : ¬ Y p 32 - Y p 32 / nI t * nI t < 0) :
    ∃ S', m_findsHeight S (nI p) = some S' ∧ S' 25 (4 * p + 3) = Y p 33 ∧ S' 26 p = Y p 34 ∧ (∀ c, c ∈ kdk S Y p n → S' 25 (4 * c) + Y p 30 = Y c 30 ∧ S' 25 (4 * c + 1) + Y p 31 = Y c 31) ∧ (∀ j, j ≠ p → S' 26 j = S 26 j) ∧
      (∀ i, i ≠ 4 * p + 3 → (∀ c, c ∈ kdk S Y p n → i ≠ 4 * c ∧ i ≠ 4 * c + 1) → S' 25 i = S 25 i) ∧ ∀ k, k ≠ 25 → k ≠ 26 → S' k = S k := by
  have h24 := h.2.2.1
  have p24 : p < 24 := by omega
  obtain ⟨wd, w1, w2⟩ := hW p hp
  obtain ⟨S1, s1, s2, s3, s4⟩ := lines_s (S := S) (e := p) p24 w2 w1
  rw [hVp 9 (by decide), h32] at s2
  obtain ⟨l1, l2, l3⟩ := hH hb
  obtain ⟨k1, k2, k3⟩ := hL hb
  rw [← l1] at s2
  have g1 : TG S S1 := fun k _ b => s4 k (by omega)
  have r23 : S1 23 = S 23 := s4 23 (by decide)
  have r25 : S1 25 = S 25 := s4 25 (by decide)
  have r28 : S1 28 = S 28 := s4 28 (by decide)
  have hkd : kdk S1 Y p n = kdk S Y p n := by
    unfold kdk
    rw [par_c g1]
  have hX1 : ∀ c, c ∈ kdk S1 Y p n → HX S1 Y c := fun c hc => by
    rw [hkd] at hc
    unfold HX
    rw [r23, r25]
    exact hX c hc
  have h281 : ∀ c, c < n → par S1 c = some p → S1 28 c = Y c 29 := fun c hc hcp => by
    rw [par_c g1] at hcp
    rw [r28]
    exact h28 c hc hcp
  have hnd := kdk_n (S := S) (Y := Y) (p := p) (k := n)
  have hlen : (kdk S Y p n).length ≤ n := kdk_l
  -- the loop's end, put together
  have fin : ∀ (F : Nat → Nat → S4 → S4) (P : Nat → Nat → S4 → Int32 × Int32) (S2 : MM), (∀ c, c ∈ kdk S Y p n → S2 25 (4 * c) = (hr F P (kdk S Y p n) 0 (Y p 34 * Y p 9, 0, 0, 0) c).1 ∧ S2 25 (4 * c + 1) = (hr F P (kdk S Y p n) 0 (Y p 34 * Y p 9, 0, 0, 0) c).2) →
      (∀ i, (∀ c, c ∈ kdk S Y p n → i ≠ 4 * c ∧ i ≠ 4 * c + 1) → S2 25 i = S1 25 i) → (∀ k, k ≠ 25 → S2 k = S1 k) →
      (∀ K, m_findsHeight_63 K (nI p) (Y p 5) (nI t) (Y p 32) 1000 (Y p 34 * Y p 9) 0 0 0 0 0 S1 = K (hf F (kdk S Y p n) 0 (Y p 34 * Y p 9, 0, 0, 0)).1 (hf F (kdk S Y p n) 0 (Y p 34 * Y p 9, 0, 0, 0)).2.2.1 (hf F (kdk S Y p n) 0 (Y p 34 * Y p 9, 0, 0, 0)).2.2.2 S2) →
      (Y p 1 = -2 → Y p 33 = (hf F (kdk S Y p n) 0 (Y p 34 * Y p 9, 0, 0, 0)).1 + (hf F (kdk S Y p n) 0 (Y p 34 * Y p 9, 0, 0, 0)).2.2.1 + (hf F (kdk S Y p n) 0 (Y p 34 * Y p 9, 0, 0, 0)).2.2.2) →
      (∀ c, c ∈ kdk S Y p n → (hr F P (kdk S Y p n) 0 (Y p 34 * Y p 9, 0, 0, 0) c).1 + Y p 30 = Y c 30 ∧ (hr F P (kdk S Y p n) 0 (Y p 34 * Y p 9, 0, 0, 0) c).2 + Y p 31 = Y c 31) →
      ∃ S', m_findsHeight S (nI p) = some S' ∧ S' 25 (4 * p + 3) = Y p 33 ∧ S' 26 p = Y p 34 ∧ (∀ c, c ∈ kdk S Y p n → S' 25 (4 * c) + Y p 30 = Y c 30 ∧ S' 25 (4 * c + 1) + Y p 31 = Y c 31) ∧ (∀ j, j ≠ p → S' 26 j = S 26 j) ∧
      (∀ i, i ≠ 4 * p + 3 → (∀ c, c ∈ kdk S Y p n → i ≠ 4 * c ∧ i ≠ 4 * c + 1) → S' 25 i = S 25 i) ∧ ∀ k, k ≠ 25 → k ≠ 26 → S' k = S k := by
    intro F P S2 f1 f2 f3 f4 f5 f6
    refine ⟨u2 S2 25 (4 * p + 3) (Y p 33), ?_, u2_self _ _ _ _, ?_, fun c hc => ?_, fun j hj => ?_, fun i hi hi2 => ?_, fun k a b => ?_⟩
    · have e1 : (if Y p 1 = -2 then (hf F (kdk S Y p n) 0 (Y p 34 * Y p 9, 0, 0, 0)).1 + (hf F (kdk S Y p n) 0 (Y p 34 * Y p 9, 0, 0, 0)).2.2.1 + (hf F (kdk S Y p n) 0 (Y p 34 * Y p 9, 0, 0, 0)).2.2.2 else Y p 1) = Y p 33 := by
        by_cases q : Y p 1 = -2
        · rw [if_pos q, f5 q]
        · rw [if_neg q, l2, if_neg q]
      unfold m_findsHeight
      rw [s1, bd_s, if_pos (og5 p24), of5 p24, r23, hVp 5 (by decide), bnd_s, if_pos (og7 p24), of7 p24, r23, hVp 7 (by decide), ht, bnd_s, i42, if_pos (ix_nI (by omega) (by omega)), tn_nI (show 4 * p + 2 < 2 ^ 31 by omega), r25, h32, bnd_s, if_pos (ix_nI p24 (by omega)), if_pos (og9 p24), of9 p24, r23, hVp 9 (by decide), tn_nI (show p < 2 ^ 31 by omega), s2, bnd_s, f4, if_pos (og1 p24), of1 p24, f3 23 (by decide), r23, hVp 1 (by decide), e1, bnd_s, i43, if_pos (ix_nI (by omega) (by omega)), tn_nI (show 4 * p + 3 < 2 ^ 31 by omega), bnd_s]
    · rw [u2_row (by decide), f3 26 (by decide)]
      exact s2
    · have hcp := (kdk_m.mp hc)
      have hcn : c ≠ p := fun z => by
        subst z
        have := ((par_S h hcp.1).2 c hcp.2.1).1
        omega
      rw [u2_ne (by omega), u2_ne (by omega), (f1 c hc).1, (f1 c hc).2]
      exact f6 c hc
    · rw [u2_row (by decide), f3 26 (by decide)]
      exact s3 j hj
    · rw [u2_ne (fun z => hi z.2), f2 i hi2, r25]
    · funext j
      rw [u2_row a, f3 k a, s4 k b]
  rcases hd with d | d | d
  · obtain ⟨S2, ⟨b1, b2, b3⟩, b4⟩ := fh63 (S := S1) (F := hs0 Y) (P := hq0 Y) (d := 0) (x3 := nI t) (x4 := Y p 32) (TS_c g1 h) hp h281 hX1 (fun fu i k s S' K hk hik r3 r5 r28 hX => st0 h24 hk hik r3 r5 r28 hX) (Y p 34 * Y p 9, 0, 0, 0)
    rw [hkd] at b1 b2 b4
    obtain ⟨c1, c2, c3⟩ := hr0 (Y := Y) (kdk S Y p n) 0 (Y p 34 * Y p 9, 0, 0, 0) hnd hA (fun _ => rfl)
    refine fin (hs0 Y) (hq0 Y) S2 b1 b2 b3 (by rw [d]; exact b4) (fun q => ?_) (fun c hc => ?_)
    · rw [l2, if_pos q, if_neg (by rw [d]; decide), if_neg (by rw [d]; decide), c2]
      show _ = (hf (hs0 Y) (kdk S Y p n) 0 (Y p 34 * Y p 9, 0, 0, 0)).1 + 0 + _
      rw [Int32.add_zero]
      exact c1
    · have z1 := (k3 (by rw [d]; decide) (by rw [d]; decide) c hc).2
      have z2 := l3 c hc
      rw [if_neg (by rw [d]; decide), if_neg (by rw [d]; decide)] at z2
      rw [c3 c hc, z1, z2]
      exact ⟨Int32.zero_add _, rfl⟩
  · obtain ⟨S2, ⟨b1, b2, b3⟩, b4⟩ := fh63 (S := S1) (F := hs1 Y) (P := hq1 Y) (d := 1) (x3 := nI t) (x4 := Y p 32) (TS_c g1 h) hp h281 hX1 (fun fu i k s S' K hk hik r3 r5 r28 hX => st1 h24 hk hik r3 r5 r28 hX) (Y p 34 * Y p 9, 0, 0, 0)
    rw [hkd] at b1 b2 b4
    obtain ⟨c1, c2, c3⟩ := hr1 (Y := Y) (kdk S Y p n) 0 (Y p 34 * Y p 9, 0, 0, 0) hnd (by omega)
    refine fin (hs1 Y) (hq1 Y) S2 b1 b2 b3 (by rw [d]; exact b4) (fun q => ?_) (fun c hc => ?_)
    · rw [l2, if_pos q, if_pos d, c2]
      show _ = (hf (hs1 Y) (kdk S Y p n) 0 (Y p 34 * Y p 9, 0, 0, 0)).1 + (hf (hs1 Y) (kdk S Y p n) 0 (Y p 34 * Y p 9, 0, 0, 0)).2.2.1 + 0
      rw [Int32.add_zero]
      exact c1
    · have z1 := (k1 d c hc).2
      have z2 := l3 c hc
      rw [if_pos d] at z2
      rw [c3 c hc, z1, z2]
      refine ⟨?_, rfl⟩
      show rwL (fun c => Y c 32) (kdk S Y p n) 0 c + Y p 30 = _
      rw [← rwL_sh _ _ _ _ hc, Int32.zero_add]
  · obtain ⟨S2, ⟨b1, b2, b3⟩, b4⟩ := fh63 (S := S1) (F := hs2 Y (Y p 32) t) (P := hq2 Y (Y p 32) t) (d := 2) (x3 := nI t) (x4 := Y p 32) (TS_c g1 h) hp h281 hX1 (fun fu i k s S' K hk hik r3 r5 r28 hX => st2 h24 ht0 ht7 hk hik r3 r5 r28 hX) (Y p 34 * Y p 9, 0, 0, 0)
    rw [hkd] at b1 b2 b4
    obtain ⟨c1, c2, c3⟩ := hr2 (Y := Y) ht0 ht7 hw0 (kdk S Y p n) 0 (Y p 34 * Y p 9, 0, 0, 0) hnd (by omega) (fun _ => rfl) (fun z => absurd (Nat.zero_mod t) z)
    have d1 : ¬ Y p 5 = 1 := by rw [d]; decide
    refine fin (hs2 Y (Y p 32) t) (hq2 Y (Y p 32) t) S2 b1 b2 b3 (by rw [d]; exact b4) (fun q => ?_) (fun c hc => ?_)
    · rw [l2, if_pos q, if_neg d1, if_pos d, c2]
      show _ = (hf (hs2 Y (Y p 32) t) (kdk S Y p n) 0 (Y p 34 * Y p 9, 0, 0, 0)).1 + (hf (hs2 Y (Y p 32) t) (kdk S Y p n) 0 (Y p 34 * Y p 9, 0, 0, 0)).2.2.1 + 0
      rw [Int32.add_zero, ht]
      exact c1
    · obtain ⟨j, hj⟩ := List.getElem?_of_mem hc
      have z1 := (k2 d j c t hj ht ht0 ht7).2
      have z2 := l3 c hc
      rw [if_neg d1, if_pos d, ht] at z2
      rw [c3 j c hj, z1, z2]
      refine ⟨?_, rfl⟩
      show glf (Y p 32) t (0 + j) + Y p 30 = _
      rw [Nat.zero_add]
      unfold glf
      ac_rfl
