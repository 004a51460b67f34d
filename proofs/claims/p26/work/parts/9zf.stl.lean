/-! ===== settle over the class at rest: the pieces ===== -/
theorem box01 {S Y : MM} {n R : Nat} (T : TS S n) (hY : LE S Y n R) {e : Nat} (he : e < n) : Y e 29 = 0 ∨ Y e 29 = 1 := by
  obtain ⟨b1, b2⟩ := hY.2.1
  rcases Nat.eq_zero_or_pos e with q | q
  · subst q
    rw [b1]
    by_cases z : Y 0 5 = 3
    · exact Or.inl (if_pos z)
    · exact Or.inr (if_neg z)
  · obtain ⟨p, _, _, hp⟩ := par_s T q he
    rw [b2 e p he hp]
    by_cases z : Y p 29 = 0
    · exact Or.inl (if_pos z)
    · rw [if_neg z]
      by_cases y : Y e 5 = 3
      · exact Or.inl (if_pos y)
      · exact Or.inr (if_neg y)
/-- the model's cells -/
def MFR (m : Nat) (h h' : Hp) : Prop := KP h h' ∧ (∀ f x, 640 ≤ f → hI h' f x = hI h f x) ∧ (∀ f, 640 ≤ f → hR h' f = hR h f) ∧ (∀ x, m < x → x ≤ m + 33 → hA h' x = hA h x) ∧ hW h' = hW h
def MMH (m : Nat) (h : Hp) (S : MM) : Prop := MW m h ∧ (∀ k, msc k = true → hI h (640 + k) m = S k 0) ∧ ∀ k, marr k = true → hA h (m + mad k) = S k
theorem mad_r {k : Nat} (h : marr k = true) : 1 ≤ mad k ∧ mad k ≤ 33 := by
  obtain ⟨j, hj, e⟩ := aFk_of h
  have := aFk_ok j hj
  rw [e] at this
  rw [this.2.1]
  omega
theorem MMH_f {m : Nat} {h h' : Hp} {S : MM} (hg : Good h) (F : MFR m h h') (H : MMH m h S) : MMH m h' S := by
  obtain ⟨K, fI, fR, fA, _⟩ := F
  obtain ⟨⟨h1, h2⟩, h3, h4⟩ := H
  refine ⟨⟨KP_k hg K h1 (by decide), fun k hk => ?_⟩, fun k hk => ?_, fun k hk => ?_⟩
  · obtain ⟨a, b, c⟩ := h2 k hk
    have hb : (if mbo k = true then 101 else 100) ≠ 999 := by split <;> decide
    refine ⟨?_, KP_k hg K b hb, ?_⟩
    · rw [fR _ (by omega)]
      exact a
    · rw [KP_l hg K b hb]
      exact c
  · rw [fI _ _ (by omega)]
    exact h3 k hk
  · have := mad_r hk
    rw [fA _ (by omega) (by omega)]
    exact h4 k hk
theorem MMH_pm {m : Nat} {h : Hp} {S : MM} (H : MMH m h S) : pm m h S = h := pm_id H.2.1 H.2.2
theorem cm_Af {w : WZ} {h : Hp} {Z : MM} {a : Nat} (h1 : ∀ e, e < wn w → wv w e ≠ a ∧ ws w e ≠ a) : hA (cm w h Z) a = hA h a := by
  funext j
  show (if j < 14 then (match fi (wn w) (wv w) a with | some e => Z e j | none => match fi (wn w) (ws w) a with | some e => Z e (14 + j) | none => hA h a j) else hA h a j) = _
  rw [fi_no (fun e he => (h1 e he).1), fi_no (fun e he => (h1 e he).2)]
  exact ite_self _
theorem cm_Ino {w : WZ} {h : Hp} {Z : MM} {f a : Nat} (h1 : ∀ e, e < wn w → wf w e ≠ a) : hI (cm w h Z) f a = hI h f a := by
  show (if 258 ≤ f ∧ f ≤ 266 then (match fi (wn w) (wf w) a with | some e => Z e (f - 230) | none => hI h f a) else hI h f a) = _
  rw [fi_no h1]
  exact ite_self _
/-- a look holds what the model keeps of the place f -/
def LKo (h : Hp) (k : Nat) (S : MM) (f : Nat) : Prop := hI h fL_isKnown k = 1 ∧ (∀ p, p < 14 → hA h (vls h k) p = S 23 (14 * f + p) ∧ hA h (scs h k) p = S 24 (14 * f + p)) ∧
  ((hI h fL_hasBox k = 0 ∧ hI h fL_left k = 0 ∧ hI h fL_top k = 0 ∧ hI h fL_width k = 0 ∧ hI h fL_height k = 0 ∧ hI h fL_lineCount k = 0 ∧ (∀ i, i < 4 → S 25 (4 * f + i) = -1) ∧ S 26 f = 0) ∨
   (hI h fL_hasBox k = 1 ∧ 0 ≤ hI h fL_width k ∧ hI h fL_left k = S 25 (4 * f) ∧ hI h fL_top k = S 25 (4 * f + 1) ∧ hI h fL_width k = S 25 (4 * f + 2) ∧ hI h fL_height k = S 25 (4 * f + 3) ∧ hI h fL_lineCount k = S 26 f))
/-- the kept looks ahead of a call: those of the place ahead, or unknown -/
def KO (h : Hp) (S : MM) (n' : Nat) (mt : Nat → Option Nat) (Ee : Nat → Nat) : Prop := ∀ e, e < n' → match mt e with
  | none => hI h fL_isKnown (kpt h (Ee e)) = 0
  | some f => LKo h (kpt h (Ee e)) S f
/-- a look holds the row e of a table -/
def LKZ (h : Hp) (k v s : Nat) (Y : MM) (e : Nat) : Prop := (∀ p, p < 14 → hA h v p = Y e p ∧ hA h s p = Y e (14 + p)) ∧ hI h fL_hasBox k = Y e 29 ∧ hI h fL_left k = Y e 30 ∧ hI h fL_top k = Y e 31 ∧ hI h fL_width k = Y e 32 ∧ hI h fL_height k = Y e 33 ∧ hI h fL_lineCount k = Y e 34
theorem smY_iff {S Y : MM} {e f : Nat} : smY S Y e f = true ↔ (∀ k, k < 14 → Y e k = S 23 (14 * f + k)) ∧ ∀ k, k < 4 → (if Y e 29 = 0 then -1 else Y e (30 + k)) = S 25 (4 * f + k) := by
  unfold smY
  rw [Bool.and_eq_true, List.all_eq_true, List.all_eq_true]
  constructor
  · rintro ⟨a, b⟩
    exact ⟨fun k hk => of_decide_eq_true (a k (List.mem_range.mpr hk)), fun k hk => of_decide_eq_true (b k (List.mem_range.mpr hk))⟩
  · rintro ⟨a, b⟩
    exact ⟨fun k hk => decide_eq_true (a k (List.mem_range.mp hk)), fun k hk => decide_eq_true (b k (List.mem_range.mp hk))⟩
theorem lsm_sm {S Y : MM} {h : Hp} {k k2 v2 s2 e f : Nat} (H : LKo h k S f) (G : LKZ h k2 v2 s2 Y e) (h01 : Y e 29 = 0 ∨ Y e 29 = 1) (hw : Y e 29 ≠ 0 → 0 ≤ Y e 32) (hz : Y e 29 = 0 → ∀ j, 30 ≤ j → j ≤ 34 → Y e j = 0) : lsm h k (vls h k) k2 v2 ↔ smY S Y e f = true := by
  obtain ⟨_, h2, h3⟩ := H
  obtain ⟨g1, g2, g3, g4, g5, g6, _⟩ := G
  rw [smY_iff]
  unfold lsm
  rw [g2, g3, g4, g5, g6]
  have n1 : ¬ (0 : Int32) ≤ -1 := by decide
  constructor
  · rintro ⟨a, b1, b2, b3, b4, b5⟩
    refine ⟨fun p hp => by rw [← (g1 p hp).1, ← a p hp, (h2 p hp).1], fun i hi => ?_⟩
    rcases h3 with ⟨c0, _, _, _, _, _, c, _⟩ | ⟨c0, _, c1, c2, c3, c4, _⟩
    · rw [if_pos (b1.symm.trans c0), c i hi]
    · rw [if_neg (show ¬ Y e 29 = 0 from fun z => by rw [← b1, c0] at z; exact absurd z (by decide))]
      have : i = 0 ∨ i = 1 ∨ i = 2 ∨ i = 3 := by omega
      rcases this with z | z | z | z <;> subst z
      · exact b2.symm.trans c1
      · exact b3.symm.trans c2
      · exact b4.symm.trans c3
      · exact b5.symm.trans c4
  · rintro ⟨a, b⟩
    refine ⟨fun p hp => by rw [(h2 p hp).1, (g1 p hp).1, a p hp], ?_⟩
    have b0 := b 0 (by decide)
    have b1 := b 1 (by decide)
    have b2 := b 2 (by decide)
    have b3 := b 3 (by decide)
    rcases h3 with ⟨c0, c1, c2, c3, c4, _, c, _⟩ | ⟨c0, cw, c1, c2, c3, c4, _⟩
    · rcases h01 with z | z
      · rw [c0, c1, c2, c3, c4, z, hz z 30 (by decide) (by decide), hz z 31 (by decide) (by decide), hz z 32 (by decide) (by decide), hz z 33 (by decide) (by decide)]
        exact ⟨rfl, rfl, rfl, rfl, rfl⟩
      · have nz : ¬ Y e 29 = 0 := fun y => by rw [z] at y; exact absurd y (by decide)
        rw [if_neg nz, c 2 (by decide)] at b2
        have := hw nz
        rw [show Y e 32 = -1 from b2] at this
        exact absurd this n1
    · rcases h01 with z | z
      · rw [if_pos z, ← c3] at b2
        rw [← b2] at cw
        exact absurd cw n1
      · have nz : ¬ Y e 29 = 0 := fun y => by rw [z] at y; exact absurd y (by decide)
        rw [if_neg nz] at b0 b1 b2 b3
        rw [c0, c1, c2, c3, c4, z]
        exact ⟨rfl, b0.symm, b1.symm, b2.symm, b3.symm⟩
/-- a look that holds a row holds what the model has found from it -/
theorem LKZ_o {S' Y : MM} {h : Hp} {k e : Nat} (hk : hI h fL_isKnown k = 1) (G : LKZ h k (vls h k) (scs h k) Y e) (h01 : Y e 29 = 0 ∨ Y e 29 = 1) (hw : Y e 29 ≠ 0 → 0 ≤ Y e 32) (hz : Y e 29 = 0 → ∀ j, 30 ≤ j → j ≤ 34 → Y e j = 0) (hV : GV S' Y e) (hE : GE S' Y e) : LKo h k S' e := by
  obtain ⟨g1, g2, g3, g4, g5, g6, g7⟩ := G
  refine ⟨hk, fun p hp => ⟨(g1 p hp).1.trans (hV p hp).1.symm, (g1 p hp).2.trans (hV p hp).2.symm⟩, ?_⟩
  rcases h01 with z | z
  · refine Or.inl ⟨g2.trans z, g3.trans (hz z 30 (by decide) (by decide)), g4.trans (hz z 31 (by decide) (by decide)), g5.trans (hz z 32 (by decide) (by decide)), g6.trans (hz z 33 (by decide) (by decide)), g7.trans (hz z 34 (by decide) (by decide)), fun i hi => ?_, ?_⟩
    · rw [hE.1 i hi, if_pos z]
    · rw [hE.2, if_pos z]
  · have nz : ¬ Y e 29 = 0 := fun y => by rw [z] at y; exact absurd y (by decide)
    refine Or.inr ⟨g2.trans z, by rw [g5]; exact hw nz, ?_, ?_, ?_, ?_, ?_⟩
    · rw [g3]
      have := hE.1 0 (by decide)
      rw [if_neg nz] at this
      exact this.symm
    · rw [g4, hE.1 1 (by decide), if_neg nz]
    · rw [g5, hE.1 2 (by decide), if_neg nz]
    · rw [g6, hE.1 3 (by decide), if_neg nz]
    · rw [g7, hE.2, if_neg nz]
theorem cnt_l {h : Hp} {w : WZ} {kp kv : Nat → Nat} {P : Nat → Bool} {wt : Nat} : ∀ n, (∀ k, k < n → (smS h w kp kv k ↔ P k = false)) → cntS h w kp kv (nI wt) n = nI (wt + cn P n)
  | 0, _ => rfl
  | n + 1, H => by
    rw [cntS_s, cnt_l n (fun k hk => H k (by omega)), cn_s]
    unfold cnt1
    have := H n (by omega)
    cases hp : P n with
    | true =>
      rw [if_neg (fun z => by rw [this.mp z] at hp; exact Bool.noConfusion hp), if_pos rfl, nI_1, Nat.add_assoc]
    | false =>
      rw [if_pos (this.mpr hp), if_neg (fun z => Bool.noConfusion z), Nat.add_zero]
/-- the swap of the looks -/
theorem pm4 {a b c d : List Nat} : List.Perm ((a ++ b) ++ (c ++ d)) ((c ++ b) ++ (a ++ d)) := List.perm_iff_count.mpr (fun x => by
  simp only [List.count_append]
  omega)
theorem ELS_sw {A : Nat → Nat} {m : Nat} {h h' : Hp} {es is : List Nat} (hg : Good h) (K : KP h h') (e1 : hR h' fL_values = hR h fL_values) (e2 : hR h' fL_sources = hR h fL_sources) (s1 : ∀ e, e ∈ es → hR h' fE_kept e = some (frs h e) ∧ hR h' fE_fresh e = some (kpt h e)) (s2 : ∀ e, e ∈ is → hR h' fE_kept e = hR h fE_kept e ∧ hR h' fE_fresh e = hR h fE_fresh e) (H : ELS A m h (es ++ is)) : ELS A m h' (es ++ is) := by
  obtain ⟨h1, h2, h3, h4, h5⟩ := H
  have k1 : ∀ e, e ∈ es → kpt h' e = frs h e ∧ frs h' e = kpt h e := fun e he => by
    obtain ⟨a, b⟩ := s1 e he
    unfold kpt frs at *
    rw [a, b]
    exact ⟨rfl, rfl⟩
  have k2 : ∀ e, e ∈ is → kpt h' e = kpt h e ∧ frs h' e = frs h e := fun e he => by
    obtain ⟨a, b⟩ := s2 e he
    unfold kpt frs
    rw [a, b]
    exact ⟨rfl, rfl⟩
  have v : vls h' = vls h := funext fun k => by unfold vls; rw [e1]
  have s : scs h' = scs h := funext fun k => by unfold scs; rw [e2]
  have pl : List.Perm (lks h (es ++ is)) (lks h' (es ++ is)) := by
    unfold lks
    rw [List.map_append, List.map_append, List.map_append, List.map_append, List.map_congr_left (fun e he => (k1 e he).2), List.map_congr_left (fun e he => (k2 e he).2), List.map_congr_left (fun e he => (k1 e he).1), List.map_congr_left (fun e he => (k2 e he).1)]
    exact pm4
  have pa : List.Perm (ars A h (es ++ is)) (ars A h' (es ++ is)) := by
    unfold ars
    rw [v, s]
    exact List.Perm.cons _ (List.Perm.cons _ (List.Perm.append (pl.map _) (pl.map _)))
  refine ⟨h1, fun e he => ?_, pl.nodup_iff.mp h3, pa.nodup_iff.mp h4, fun a ha => h5 a (pa.mem_iff.mpr ha)⟩
  obtain ⟨y1, y2, y3, y4, y5⟩ := h2 e he
  rcases List.mem_append.mp he with q | q
  · obtain ⟨a, b⟩ := s1 e q
    obtain ⟨c, d⟩ := k1 e q
    refine ⟨KP_k hg K y1 (by decide), ?_, ?_, ?_, ?_⟩
    · rw [b, d]
    · rw [d]
      exact KP_LW hg K e1 e2 y5
    · rw [a, c]
    · rw [c]
      exact KP_LW hg K e1 e2 y3
  · obtain ⟨a, b⟩ := s2 e q
    obtain ⟨c, d⟩ := k2 e q
    refine ⟨KP_k hg K y1 (by decide), ?_, ?_, ?_, ?_⟩
    · rw [b, d]
      exact y2
    · rw [d]
      exact KP_LW hg K e1 e2 y3
    · rw [a, c]
      exact y4
    · rw [c]
      exact KP_LW hg K e1 e2 y5
