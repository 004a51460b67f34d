/-! ===== the class: the children of an element measured ===== -/
def chl (S : MM) (n p : Nat) : List Nat := (List.range n).filter (fun c => decide (par S c = some p))
theorem chl_m {S : MM} {n p c : Nat} : c ∈ chl S n p ↔ c < n ∧ par S c = some p := by
  unfold chl
  rw [List.mem_filter, List.mem_range, decide_eq_true_iff]
theorem chl_n {S : MM} {n p : Nat} : (chl S n p).Nodup := List.Nodup.sublist List.filter_sublist List.nodup_range
theorem chl_l {S : MM} {n p : Nat} : (chl S n p).length ≤ n := by
  have := List.length_filter_le (fun c => decide (par S c = some p)) (List.range n)
  rw [List.length_range] at this
  exact this
theorem chl_x {S : MM} {n p : Nat} (h : TS S n) : p ∉ chl S n p := fun z => by
  obtain ⟨a, b⟩ := chl_m.mp z
  have := ((par_S h a).2 p b).1
  omega
theorem kdk_bx {S Y : MM} {n p : Nat} : kdk S Y p n = bx Y (chl S n p) := by
  unfold kdk bx chl
  rw [List.filter_filter]
  refine List.filter_congr (fun c _ => ?_)
  by_cases a : par S c = some p
  · by_cases b : Y c 29 = 0
    · simp [a, b]
    · simp [a, b]
  · simp [a]
theorem clRow {S : MM} {n p : Nat} {w : WZ} {Z : MM} (T : TS S n) (hW : WDo S n) (hE : ∀ c, c < n → wi w 195 c = S 8 c ∧ wi w 196 c = S 9 c) (hc : chn w (wl w 200 p) (chl S n p)) (h6 : ∀ c, c ∈ chl S n p → 0 ≤ Z c 6) (h36 : ∀ c, c ∈ chl S n p → Z c 36 = 0) :
    ∃ Z' : MM, k_measureRow w Z p = some Z' ∧ (∀ c, c ∈ bx Z (chl S n p) → Z' c 32 = shF (bx Z (chl S n p)) (Z p 32) (fun c => Z c 6) (fun c => Z c 2) 25 (fun c => owY Z c (auY S Z c)) (fun _ => 0) c ∧ Z' c 30 = rwL (fun c => Z' c 32) (bx Z (chl S n p)) (Z p 30) c) ∧
      (∀ q j, (q ∉ chl S n p ∨ (j ≠ 30 ∧ j ≠ 32 ∧ j ≠ 35 ∧ j ≠ 36)) → Z' q j = Z q j) ∧ ∀ c, c ∈ chl S n p → Z c 29 = 0 → Z' c 30 = Z c 30 ∧ Z' c 32 = Z c 32 := by
  have h24 := T.2.2.1
  have hn := chl_n (S := S) (n := n) (p := p)
  have hl : (chl S n p).length ≤ 24 := Nat.le_trans chl_l h24
  have hx := chl_x (p := p) T
  obtain ⟨Z1, ⟨a1, a2⟩, e1⟩ := krow5 (S := S) (Z := Z) hc hn hl (fun c hcc => by
    have hcn := (chl_m.mp hcc).1
    obtain ⟨wd, w1, w2⟩ := hW c hcn
    exact ⟨(hE c hcn).1, (hE c hcn).2, by rw [w2, tn_nI (by omega)]⟩)
  have b1 : bx Z1 (chl S n p) = bx Z (chl S n p) := bx_c (fun c _ => a2 c 29 (Or.inr (by decide)))
  obtain ⟨g, eg⟩ : ∃ g : Nat → Int32, g = fun c => if 0 ≤ Z c 6 then Z c 6 else 0 := ⟨_, rfl⟩
  have hg0 : ∀ c, 0 ≤ g c := fun c => by
    rw [eg]
    show 0 ≤ if 0 ≤ Z c 6 then Z c 6 else 0
    by_cases q : 0 ≤ Z c 6
    · rw [if_pos q]; exact q
    · rw [if_neg q]; exact Int32.le_refl _
  have hg : ∀ c, c ∈ chl S n p → g c = Z c 6 := fun c hcc => by
    rw [eg]
    exact if_pos (h6 c hcc)
  obtain ⟨Z2, ⟨c1, c2, c3⟩, e2⟩ := krow68 (g := g) (m := fun c => Z c 2) hc hn hx hl hg0 25 (Nat.le_refl _) (fun c => owY Z c (auY S Z c)) (fun _ => 0) Z1 1000 (by decide)
    (fun c hcb => by rw [b1] at hcb; rw [a2 c 6 (Or.inr (by decide)), hg c (bx_m.mp hcb).1]) (fun c hcb => a2 c 2 (Or.inr (by decide))) (fun c hcb => by rw [b1] at hcb; exact a1 c hcb) (fun c hcb => by rw [b1] at hcb; rw [a2 c 36 (Or.inr (by decide))]; exact h36 c (bx_m.mp hcb).1)
  rw [b1, a2 p 32 (Or.inl (fun z => hx (bx_m.mp z).1))] at c1
  -- the growing as it is told
  have cU : ∀ (ks : List Nat) (fz : Nat → Int32) (a : Int32), (∀ c, c ∈ ks → g c = Z c 6) → shU fz g ks a = shU fz (fun c => Z c 6) ks a := by
    intro ks
    induction ks with
    | nil => exact fun _ _ _ => rfl
    | cons c ks ih =>
      intro fz a k
      show shU fz g ks (a + (if fz c = 0 then g c else 0)) = shU fz (fun c => Z c 6) ks (a + (if fz c = 0 then Z c 6 else 0))
      rw [k c List.mem_cons_self]
      exact ih fz _ (fun d hd => k d (List.mem_cons_of_mem _ hd))
  have cO : ∀ (ks : List Nat) (rest sum : Int32) (fz : Nat → Int32) (a : Int32), (∀ c, c ∈ ks → g c = Z c 6) → shO rest sum fz g ks a = shO rest sum fz (fun c => Z c 6) ks a := by
    intro ks
    induction ks with
    | nil => exact fun _ _ _ _ _ => rfl
    | cons c ks ih =>
      intro rest sum fz a k
      show shO rest sum fz g ks (a - shP rest sum fz g c) = shO rest sum fz (fun c => Z c 6) ks (a - shP rest sum fz (fun c => Z c 6) c)
      have : shP rest sum fz g c = shP rest sum fz (fun c => Z c 6) c := by unfold shP; rw [k c List.mem_cons_self]
      rw [this]
      exact ih rest sum fz _ (fun d hd => k d (List.mem_cons_of_mem _ hd))
  have cG : ∀ (ks : List Nat) (rest sum : Int32) (fz : Nat → Int32) (a : Int32), (∀ c, c ∈ ks → g c = Z c 6) → shG rest sum fz g ks a = shG rest sum fz (fun c => Z c 6) ks a := by
    intro ks
    induction ks with
    | nil => exact fun _ _ _ _ _ => rfl
    | cons c ks ih =>
      intro rest sum fz a k
      funext z
      rw [shG, shG, k c List.mem_cons_self, ih rest sum fz _ (fun d hd => k d (List.mem_cons_of_mem _ hd))]
  have cN : ∀ (ks : List Nat) (Wd : Int32) (wf fz : Nat → Int32), (∀ c, c ∈ ks → g c = Z c 6) → shN ks Wd g wf fz = shN ks Wd (fun c => Z c 6) wf fz := fun ks Wd wf fz k => by
    unfold shN
    rw [cU ks fz 0 k, cO ks _ _ fz _ k, cG ks _ _ fz _ k]
  have cF : ∀ (j : Nat) (ks : List Nat) (Wd : Int32) (wf fz : Nat → Int32), (∀ c, c ∈ ks → g c = Z c 6) → shF ks Wd g (fun c => Z c 2) j wf fz = shF ks Wd (fun c => Z c 6) (fun c => Z c 2) j wf fz := by
    intro j
    induction j with
    | zero => exact fun _ _ _ _ _ => rfl
    | succ j ih =>
      intro ks Wd wf fz k
      unfold shF
      rw [cU ks fz 0 k, cN ks Wd wf fz k, ih ks Wd _ _ k]
  rw [cF 25 _ _ _ _ (fun c hcb => hg c (bx_m.mp hcb).1)] at c1
  have b2 : bx Z2 (chl S n p) = bx Z (chl S n p) := (bx_c (fun c _ => c2 c 29 (Or.inr ⟨by decide, by decide, by decide⟩))).trans b1
  have p30 : Z2 p 30 = Z p 30 := by rw [c2 p 30 (Or.inl hx), a2 p 30 (Or.inl (fun z => hx (bx_m.mp z).1))]
  obtain ⟨Z3, ⟨d1, d2⟩, e3⟩ := krow102 (Z := Z2) (L0 := Z p 30) hc hn hl
  rw [b2] at d1 d2
  refine ⟨Z3, ?_, fun c hcb => ?_, fun q j hq => ?_, fun c hcc h0 => ?_⟩
  · unfold k_measureRow
    rw [bnd_s, e1, show (0 : Int32) = nI (25 - 25) from rfl]
    have := e2 (fun Z29 => bnd (Z29 p 30) fun p30 => bnd (wl w 200 p) fun p31 => k_measureRow_102 w 1000 p30 p31 Z29)
    refine this.trans ?_
    rw [bnd_s, bnd_s, p30]
    exact e3
  · have ew : (fun c => Z3 c 32) = fun c => Z2 c 32 := funext fun c => d2 c 32 (Or.inr (by decide))
    rw [ew, d2 c 32 (Or.inr (by decide)), d1 c hcb]
    exact ⟨c1 c hcb, rfl⟩
  · rw [d2 q j (hq.imp (fun y z => y (bx_m.mp z).1) (fun y => y.1)), c2 q j (hq.imp id (fun y => ⟨y.2.1, y.2.2.1, y.2.2.2⟩)), a2 q j (hq.imp (fun y z => y (bx_m.mp z).1) (fun y => y.2.1))]
  · have hno : c ∉ bx Z (chl S n p) := fun z => (bx_m.mp z).2 h0
    rw [d2 c 30 (Or.inl hno), d2 c 32 (Or.inl hno), c2 c 30 (Or.inr ⟨by decide, by decide, by decide⟩), c3 c hcc (by rw [a2 c 29 (Or.inr (by decide))]; exact h0), a2 c 30 (Or.inl hno), a2 c 32 (Or.inl hno)]
    exact ⟨rfl, rfl⟩
/-- the children of p: boxes begun, widths and lefts -/
theorem clMea {S : MM} {n p t : Nat} {w : WZ} {Z : MM} (T : TS S n) (hW : WDo S n) (hE : ∀ c, c < n → wi w 195 c = S 8 c ∧ wi w 196 c = S 9 c) (hc : chn w (wl w 200 p) (chl S n p)) (h6 : ∀ c, c ∈ chl S n p → 0 ≤ Z c 6) (ht : Z p 7 = nI t) (ht0 : 0 < t) (ht7 : t < 7) :
    ∃ Z' : MM, k_measureChildren w Z p = some Z' ∧ (∀ q j, (q ∉ chl S n p ∨ j < 29 ∨ 36 < j) → Z' q j = Z q j) ∧ (∀ c, c ∈ chl S n p → Z' c 29 = (if Z p 29 = 0 then 0 else if Z c 5 = 3 then 0 else 1) ∧ Z' c 31 = 0 ∧ Z' c 33 = 0 ∧ Z' c 34 = 0 ∧ (Z' c 29 = 0 → Z' c 30 = 0 ∧ Z' c 32 = 0)) ∧ LEW S Z' n p := by
  have h24 := T.2.2.1
  have hn := chl_n (S := S) (n := n) (p := p)
  have hl : (chl S n p).length ≤ 24 := Nat.le_trans chl_l h24
  have hx := chl_x (p := p) T
  obtain ⟨Z1, ⟨a1, a2⟩, e1⟩ := kb10 (Z := Z) hc hn hx hl
  have f29 : Z1 p 29 = Z p 29 := a2 p 29 (Or.inl hx)
  have f5 : Z1 p 5 = Z p 5 := a2 p 5 (Or.inl hx)
  have e0 : k_measureChildren w Z p = if Z1 p 29 = 0 then some Z1 else if Z1 p 5 = 1 then (bd (k_measureRow w Z1 p) fun Z12 => some Z12) else if Z1 p 5 = 2 then (bd (k_measureGrid w Z1 p) fun Z14 => some Z14) else (bd (k_measureBlock w Z1 p) fun Z16 => some Z16) := by
    unfold k_measureChildren
    rw [bnd_s, e1]
    rfl
  rw [e0]
  -- what holds of the end, where only lefts and widths of children with boxes changed
  have fin : ∀ Z' : MM, (∀ q j, (q ∉ chl S n p ∨ (j ≠ 30 ∧ j ≠ 32 ∧ j ≠ 35 ∧ j ≠ 36)) → Z' q j = Z1 q j) → (∀ c, c ∈ chl S n p → Z1 c 29 = 0 → Z' c 30 = Z1 c 30 ∧ Z' c 32 = Z1 c 32) → LEW S Z' n p →
      ∃ Z'' : MM, some Z' = some Z'' ∧ (∀ q j, (q ∉ chl S n p ∨ j < 29 ∨ 36 < j) → Z'' q j = Z q j) ∧ (∀ c, c ∈ chl S n p → Z'' c 29 = (if Z p 29 = 0 then 0 else if Z c 5 = 3 then 0 else 1) ∧ Z'' c 31 = 0 ∧ Z'' c 33 = 0 ∧ Z'' c 34 = 0 ∧ (Z'' c 29 = 0 → Z'' c 30 = 0 ∧ Z'' c 32 = 0)) ∧ LEW S Z'' n p := fun Z' h1 h2 h3 => by
    refine ⟨Z', rfl, fun q j hq => ?_, fun c hcc => ?_, h3⟩
    · rw [h1 q j (hq.imp id (fun y => ⟨by omega, by omega, by omega, by omega⟩)), a2 q j hq]
    · obtain ⟨b1, b2⟩ := a1 c hcc
      rw [h1 c 29 (Or.inr ⟨by decide, by decide, by decide, by decide⟩), h1 c 31 (Or.inr ⟨by decide, by decide, by decide, by decide⟩), h1 c 33 (Or.inr ⟨by decide, by decide, by decide, by decide⟩), h1 c 34 (Or.inr ⟨by decide, by decide, by decide, by decide⟩)]
      refine ⟨b1, b2 31 (by decide) (by decide), b2 33 (by decide) (by decide), b2 34 (by decide) (by decide), fun h0 => ?_⟩
      obtain ⟨x, y⟩ := h2 c hcc h0
      rw [x, y]
      exact ⟨b2 30 (by decide) (by decide), b2 32 (by decide) (by decide)⟩
  -- the values that a width needs
  have vals : ∀ Z' : MM, (∀ q j, (q ∉ chl S n p ∨ (j ≠ 30 ∧ j ≠ 32 ∧ j ≠ 35 ∧ j ≠ 36)) → Z' q j = Z1 q j) → kdk S Z' p n = bx Z1 (chl S n p) ∧ (∀ j, Z' p j = Z1 p j) ∧ ∀ c j, j < 29 → Z' c j = Z1 c j := fun Z' h1 =>
    ⟨by rw [kdk_bx]; exact bx_c (fun c _ => h1 c 29 (Or.inr ⟨by decide, by decide, by decide, by decide⟩)), fun j => h1 p j (Or.inl hx), fun c j hj => h1 c j (Or.inr ⟨by omega, by omega, by omega, by omega⟩)⟩
  have owc : ∀ (Z' : MM) (c : Nat) (a : Int32), (∀ c j, j < 29 → Z' c j = Z1 c j) → owY Z' c a = owY Z1 c a := fun Z' c a h => by
    unfold owY
    rw [h c 2 (by decide), h c 0 (by decide)]
  by_cases b : Z1 p 29 = 0
  · rw [if_pos b]
    refine fin Z1 (fun _ _ _ => rfl) (fun _ _ _ => ⟨rfl, rfl⟩) (fun z => absurd b z)
  · rw [if_neg b]
    by_cases d1 : Z1 p 5 = 1
    · rw [if_pos d1]
      obtain ⟨Z2, r1, r2, r3, r4⟩ := clRow (Z := Z1) T hW hE hc (fun c hcc => by rw [a2 c 6 (Or.inr (Or.inl (by decide)))]; exact h6 c hcc) (fun c hcc => (a1 c hcc).2 36 (by decide) (by decide))
      rw [r1, bd_s]
      obtain ⟨v1, v2, v3⟩ := vals Z2 r3
      refine fin Z2 r3 r4 (fun _ => ⟨fun _ c hcb => ?_, fun z => ?_, fun z => absurd ((v2 5).trans d1) z⟩)
      · rw [v1] at hcb ⊢
        obtain ⟨x, y⟩ := r2 c hcb
        have ef1 : (fun c => Z2 c 6) = fun c => Z1 c 6 := funext fun c => v3 c 6 (by decide)
        have ef2 : (fun c => Z2 c 2) = fun c => Z1 c 2 := funext fun c => v3 c 2 (by decide)
        have ef3 : (fun c => owY Z2 c (auY S Z2 c)) = fun c => owY Z1 c (auY S Z1 c) := funext fun c => by
          rw [owc Z2 c _ v3]
          unfold auY
          rw [v3 c 9 (by decide)]
        rw [ef1, ef2, ef3, v2 32, v2 30]
        exact ⟨x, y⟩
      · rw [v2 5, d1] at z
        exact absurd z (by decide)
    · rw [if_neg d1]
      by_cases d2 : Z1 p 5 = 2
      · rw [if_pos d2]
        have t7 : Z1 p 7 = nI t := (a2 p 7 (Or.inl hx)).trans ht
        have ht1 : (1 : Int32) ≤ nI t := nI_le (a := 1) ht0 (by omega)
        obtain ⟨Z2, ⟨r1, r2⟩, r3⟩ := kgrd (Z := Z1) (t := t) (x0 := p) (x2 := Z1 p 32 / nI t) (x3 := Z1 p 32 - Z1 p 32 / nI t * nI t) hc hn hx hl ht0 ht7
        have eg : k_measureGrid w Z1 p = some Z2 := by
          unfold k_measureGrid
          rw [bnd_s, t7, if_pos ht1, if_pos (nI_ne0 ht0 (by omega)), bnd_s, bnd_s, bnd_s]
          exact r3
        rw [eg, bd_s]
        have r2' : ∀ q j, (q ∉ chl S n p ∨ (j ≠ 30 ∧ j ≠ 32 ∧ j ≠ 35 ∧ j ≠ 36)) → Z2 q j = Z1 q j := fun q j hq => r2 q j (hq.imp (fun y z => y (bx_m.mp z).1) (fun y => ⟨y.1, y.2.1⟩))
        obtain ⟨v1, v2, v3⟩ := vals Z2 r2'
        refine fin Z2 r2' (fun c hcc h0 => ?_) (fun _ => ⟨fun z => absurd ((v2 5).symm.trans z) d1, fun _ k c t' hk ht' h0 h7 => ?_, fun _ z => absurd ((v2 5).trans d2) z⟩)
        · have hno : c ∉ bx Z1 (chl S n p) := fun z => (bx_m.mp z).2 h0
          exact ⟨r2 c 30 (Or.inl hno), r2 c 32 (Or.inl hno)⟩
        · rw [v1] at hk
          rw [v2 7, t7] at ht'
          have htt : t' = t := ((nI_eq (by omega) (by omega)).mp ht').symm
          subst htt
          rw [v2 32, v2 30]
          exact r1 k c hk
      · rw [if_neg d2]
        obtain ⟨Z2, ⟨r1, r2⟩, r3⟩ := kblk (Z := Z1) hc hn hx hl
        have eg : k_measureBlock w Z1 p = some Z2 := by
          unfold k_measureBlock
          rw [bnd_s]
          exact r3
        rw [eg, bd_s]
        have r2' : ∀ q j, (q ∉ chl S n p ∨ (j ≠ 30 ∧ j ≠ 32 ∧ j ≠ 35 ∧ j ≠ 36)) → Z2 q j = Z1 q j := fun q j hq => r2 q j (hq.imp (fun y z => y (bx_m.mp z).1) (fun y => ⟨y.1, y.2.1⟩))
        obtain ⟨v1, v2, v3⟩ := vals Z2 r2'
        refine fin Z2 r2' (fun c hcc h0 => ?_) (fun _ => ⟨fun z => absurd ((v2 5).symm.trans z) d1, fun z => absurd ((v2 5).symm.trans z) d2, fun _ _ c hcb => ?_⟩)
        · have hno : c ∉ bx Z1 (chl S n p) := fun z => (bx_m.mp z).2 h0
          exact ⟨r2 c 30 (Or.inl hno), r2 c 32 (Or.inl hno)⟩
        · rw [v1] at hcb
          rw [v2 32, v2 30, owc Z2 c _ v3]
          exact r1 c hcb
