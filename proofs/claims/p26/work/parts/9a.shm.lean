/-! ===== what is found: boxes, over a table; a row shared ===== -/
def capm (m x : Int32) : Int32 := if m = -2 then x else if x ≤ m then x else m
def shR (w : Nat → Int32) (ks : List Nat) (a : Int32) : Int32 := ks.foldl (fun a c => a - w c) a
def shU (fz g : Nat → Int32) (ks : List Nat) (a : Int32) : Int32 := ks.foldl (fun a c => a + (if fz c = 0 then g c else 0)) a
def shP (rest sum : Int32) (fz g : Nat → Int32) (c : Nat) : Int32 := if fz c = 0 then rest * g c / sum else 0
def shO (rest sum : Int32) (fz g : Nat → Int32) (ks : List Nat) (a : Int32) : Int32 := ks.foldl (fun a c => a - shP rest sum fz g c) a
/-- what each one gets -/
def shG (rest sum : Int32) (fz g : Nat → Int32) : List Nat → Int32 → Nat → Int32
  | [], _, _ => 0
  | c :: cs, m, z => if z = c then (if fz c = 0 ∧ 0 < g c then rest * g c / sum + (if m ≤ 0 then 0 else 1) else 0) else shG rest sum fz g cs (if fz c = 0 ∧ 0 < g c ∧ 0 < m then m - 1 else m) z
def shN (ks : List Nat) (Wd : Int32) (g w fz : Nat → Int32) : Nat → Int32 := shG (shR w ks Wd) (shU fz g ks 0) fz g ks (shO (shR w ks Wd) (shU fz g ks 0) fz g ks (shR w ks Wd))
/-- one that would be wider than it may -/
def shB (w fz m gn : Nat → Int32) (c : Nat) : Bool := decide (fz c = 0 ∧ ¬ w c + gn c ≤ capm (m c) (w c + gn c))
/-- the widths, the row shared -/
def shF (ks : List Nat) (Wd : Int32) (g m : Nat → Int32) : Nat → (Nat → Int32) → (Nat → Int32) → Nat → Int32
  | 0, w, _ => w
  | f + 1, w, fz => if shR w ks Wd ≤ 0 ∨ shU fz g ks 0 ≤ 0 then w else if ks.any (shB w fz m (shN ks Wd g w fz)) = true then
      shF ks Wd g m f (fun c => if shB w fz m (shN ks Wd g w fz) c = true then m c else w c) (fun c => if shB w fz m (shN ks Wd g w fz) c = true then 1 else fz c) else fun c => w c + shN ks Wd g w fz c
/-! ===== the model's functions: shares ===== -/
theorem of_n {S : MM} {c p : Nat} {q : Int32} (hq : q = nI p) (hc : c < 24) (hp : p < 14) : m_of S (nI c) q = S 23 (14 * c + p) := by
  unfold m_of
  rw [hq, nx14, nI_add, tn_nI (by omega)]
theorem og_n {S : MM} {c p : Nat} {q : Int32} (hq : q = nI p) (hc : c < 24) (hp : p < 14) : m_of_g S (nI c) q := by
  show ix (14 * nI c + q) 336
  rw [hq, nx14, nI_add]
  exact ix_nI (by omega) (by omega)
theorem of0 {S : MM} {c : Nat} (hc : c < 24) : m_of S (nI c) (0 : Int32) = S 23 (14 * c + 0) := of_n (p := 0) rfl hc (by decide)
theorem og0 {S : MM} {c : Nat} (hc : c < 24) : m_of_g S (nI c) (0 : Int32) := og_n (p := 0) rfl hc (by decide)
theorem of1 {S : MM} {c : Nat} (hc : c < 24) : m_of S (nI c) (1 : Int32) = S 23 (14 * c + 1) := of_n (p := 1) rfl hc (by decide)
theorem og1 {S : MM} {c : Nat} (hc : c < 24) : m_of_g S (nI c) (1 : Int32) := og_n (p := 1) rfl hc (by decide)
theorem of2 {S : MM} {c : Nat} (hc : c < 24) : m_of S (nI c) (2 : Int32) = S 23 (14 * c + 2) := of_n (p := 2) rfl hc (by decide)
theorem og2 {S : MM} {c : Nat} (hc : c < 24) : m_of_g S (nI c) (2 : Int32) := og_n (p := 2) rfl hc (by decide)
theorem of3 {S : MM} {c : Nat} (hc : c < 24) : m_of S (nI c) (3 : Int32) = S 23 (14 * c + 3) := of_n (p := 3) rfl hc (by decide)
theorem og3 {S : MM} {c : Nat} (hc : c < 24) : m_of_g S (nI c) (3 : Int32) := og_n (p := 3) rfl hc (by decide)
theorem of4 {S : MM} {c : Nat} (hc : c < 24) : m_of S (nI c) (4 : Int32) = S 23 (14 * c + 4) := of_n (p := 4) rfl hc (by decide)
theorem og4 {S : MM} {c : Nat} (hc : c < 24) : m_of_g S (nI c) (4 : Int32) := og_n (p := 4) rfl hc (by decide)
theorem of5 {S : MM} {c : Nat} (hc : c < 24) : m_of S (nI c) (5 : Int32) = S 23 (14 * c + 5) := of_n (p := 5) rfl hc (by decide)
theorem og5 {S : MM} {c : Nat} (hc : c < 24) : m_of_g S (nI c) (5 : Int32) := og_n (p := 5) rfl hc (by decide)
theorem of6 {S : MM} {c : Nat} (hc : c < 24) : m_of S (nI c) (6 : Int32) = S 23 (14 * c + 6) := of_n (p := 6) rfl hc (by decide)
theorem og6 {S : MM} {c : Nat} (hc : c < 24) : m_of_g S (nI c) (6 : Int32) := og_n (p := 6) rfl hc (by decide)
theorem of7 {S : MM} {c : Nat} (hc : c < 24) : m_of S (nI c) (7 : Int32) = S 23 (14 * c + 7) := of_n (p := 7) rfl hc (by decide)
theorem og7 {S : MM} {c : Nat} (hc : c < 24) : m_of_g S (nI c) (7 : Int32) := og_n (p := 7) rfl hc (by decide)
theorem of9 {S : MM} {c : Nat} (hc : c < 24) : m_of S (nI c) (9 : Int32) = S 23 (14 * c + 9) := of_n (p := 9) rfl hc (by decide)
theorem og9 {S : MM} {c : Nat} (hc : c < 24) : m_of_g S (nI c) (9 : Int32) := og_n (p := 9) rfl hc (by decide)
theorem cap_n {S : MM} {c : Nat} {x : Int32} (hc : c < 24) : m_capped S (nI c) x = capm (S 23 (14 * c + 2)) x := by
  unfold m_capped capm
  rw [of2 hc]
theorem i42 (c : Nat) : (4 : Int32) * nI c + 2 = nI (4 * c + 2) := by rw [nx4, np2]
/-- the memory holds widths, what is frozen, what they grow by and the most -/
def SX (S : MM) (ks : List Nat) (w fz g m : Nat → Int32) : Prop := ∀ k c, ks[k]? = some c → c < 24 ∧ k < 24 ∧ S 34 k = nI c ∧ S 25 (4 * c + 2) = w c ∧ S 35 k = fz c ∧ S 23 (14 * c + 6) = g c ∧ S 23 (14 * c + 2) = m c
theorem tk_s {ks : List Nat} {k c : Nat} (h : ks[k]? = some c) : ks.take (k + 1) = ks.take k ++ [c] := by rw [List.take_add_one, h, Option.toList_some]
theorem at_k {ks : List Nat} {k : Nat} (h : k < ks.length) : ∃ c, ks[k]? = some c := ⟨ks[k], List.getElem?_eq_getElem h⟩
theorem dp_s {ks : List Nat} {k c : Nat} (h : ks[k]? = some c) : ks.drop k = c :: ks.drop (k + 1) := by
  obtain ⟨hk, hc⟩ := List.getElem?_eq_some_iff.mp h
  rw [← hc]
  exact List.drop_eq_getElem_cons hk
theorem sh15 {S : MM} {ks : List Nat} {w fz g m : Nat → Int32} {Wd : Int32} (hX : SX S ks w fz g m) (hl : ks.length ≤ 24) : ∀ K, m_shares_15 K S (nI ks.length) 1000 Wd 0 0 = K (shR w ks Wd) (shU fz g ks 0) := by
  obtain ⟨s, ⟨i1, i2⟩, e⟩ := lp_0 (σ := Int32 × Int32) (α := Option MM) (L := fun K fu k s => m_shares_15 (fun a b => K (a, b)) S (nI ks.length) fu s.1 s.2 (nI k)) (n := ks.length)
    (Inv := fun k s => s.1 = shR w (ks.take k) Wd ∧ s.2 = shU fz g (ks.take k) 0)
    (fun K fu s _ => by
      show m_shares_15 (fun a b => K (a, b)) S (nI ks.length) (fu + 1) s.1 s.2 (nI ks.length) = K s
      rw [m_shares_15, if_pos (Int32.le_refl _)])
    (fun fu k s hk hi => by
      obtain ⟨i1, i2⟩ := hi
      obtain ⟨c, hc⟩ := at_k hk
      obtain ⟨c1, c2, c3, c4, c5, c6, c7⟩ := hX k c hc
      refine ⟨(s.1 - w c, s.2 + (if fz c = 0 then g c else 0)), ⟨?_, ?_⟩, fun K => ?_⟩
      · show s.1 - w c = _
        rw [tk_s hc, i1]
        unfold shR
        rw [List.foldl_append]
        rfl
      · show s.2 + (if fz c = 0 then g c else 0) = _
        rw [tk_s hc, i2]
        unfold shU
        rw [List.foldl_append]
        rfl
      · show m_shares_15 (fun a b => K (a, b)) S (nI ks.length) (fu + 1) s.1 s.2 (nI k) = m_shares_15 (fun a b => K (a, b)) S (nI ks.length) fu (s.1 - w c) (s.2 + (if fz c = 0 then g c else 0)) (nI (k + 1))
        rw [m_shares_15, if_neg (nI_ge hk (by omega)), if_pos (ix_nI c2 (by omega)), tn_nI (by omega), c3, i42, if_pos (ix_nI (by omega) (by omega)), tn_nI (by omega), c4, bnd_s, if_pos (fun _ => og6 c1), of6 c1, c5, c6, bnd_s, bnd_s, nI_1])
    (fu := 1000) (s := (Wd, 0)) (by omega) ⟨rfl, rfl⟩
  rw [List.take_length] at i1 i2
  intro K
  have := e (fun s => K s.1 s.2)
  rw [i1, i2, nI_0] at this
  exact this
theorem sh99 {S : MM} {ks : List Nat} {w fz g m : Nat → Int32} {rest sum : Int32} (hX : SX S ks w fz g m) (hl : ks.length ≤ 24) (hs : ¬ sum = 0) : ∀ K, m_shares_99 K S (nI ks.length) rest sum 1000 rest 0 = K (shO rest sum fz g ks rest) := by
  obtain ⟨s, i1, e⟩ := lp_0 (σ := Int32) (α := Option MM) (L := fun K fu k s => m_shares_99 K S (nI ks.length) rest sum fu s (nI k)) (n := ks.length)
    (Inv := fun k s => s = shO rest sum fz g (ks.take k) rest)
    (fun K fu s _ => by
      show m_shares_99 K S (nI ks.length) rest sum (fu + 1) s (nI ks.length) = K s
      rw [m_shares_99, if_pos (Int32.le_refl _)])
    (fun fu k s hk hi => by
      obtain ⟨c, hc⟩ := at_k hk
      obtain ⟨c1, c2, c3, c4, c5, c6, c7⟩ := hX k c hc
      refine ⟨s - shP rest sum fz g c, ?_, fun K => ?_⟩
      · rw [tk_s hc, hi]
        unfold shO
        rw [List.foldl_append]
        rfl
      · show m_shares_99 K S (nI ks.length) rest sum (fu + 1) s (nI k) = m_shares_99 K S (nI ks.length) rest sum fu (s - shP rest sum fz g c) (nI (k + 1))
        rw [m_shares_99, if_neg (nI_ge hk (by omega)), if_pos (ix_nI c2 (by omega)), tn_nI (by omega), c3, if_pos (fun _ => ⟨og6 c1, hs⟩), of6 c1, c5, c6, bnd_s, bnd_s, nI_1]
        rfl)
    (fu := 1000) (s := rest) (by omega) rfl
  rw [List.take_length] at i1
  intro K
  have := e K
  rw [i1, nI_0] at this
  exact this
theorem or01 {a b : Bool} : (if a = true then (1 : Int32) else 0) ||| (if b = true then 1 else 0) = if (a || b) = true then 1 else 0 := by
  cases a <;> cases b <;> decide
theorem lp_p {σ τ α : Type} {L : (τ → α) → Nat → Nat → σ → α} {pr : σ → τ} {n : Nat} {Inv : Nat → σ → Prop} (he : ∀ K fu s, Inv n s → L K (fu + 1) n s = K (pr s))
    (hs : ∀ fu k s, k < n → Inv k s → ∃ s', Inv (k + 1) s' ∧ ∀ K, L K (fu + 1) k s = L K fu (k + 1) s') {fu : Nat} {s : σ} (hn : n + 1 ≤ fu) (h0 : Inv 0 s) : ∃ s', Inv n s' ∧ ∀ K, L K fu 0 s = K (pr s') := by
  have : ∀ m k, k + m = n → ∀ fu s, m + 1 ≤ fu → Inv k s → ∃ s', Inv n s' ∧ ∀ K, L K fu k s = K (pr s') := by
    intro m
    induction m with
    | zero =>
      intro k hk fu s hf hi
      obtain ⟨fu, rfl⟩ : ∃ z, fu = z + 1 := ⟨fu - 1, by omega⟩
      have : k = n := by omega
      subst this
      exact ⟨s, hi, fun K => he K fu s hi⟩
    | succ m ih =>
      intro k hk fu s hf hi
      obtain ⟨fu, rfl⟩ : ∃ z, fu = z + 1 := ⟨fu - 1, by omega⟩
      obtain ⟨s', h1, h2⟩ := hs fu k s (by omega) hi
      obtain ⟨s2, h3, h4⟩ := ih (k + 1) (by omega) fu s' (by omega) h1
      exact ⟨s2, h3, fun K => (h2 K).trans (h4 K)⟩
  exact this n 0 (Nat.zero_add n) fu s hn h0
theorem nd_dp {ks : List Nat} {k c z : Nat} (hn : ks.Nodup) (hc : ks[k]? = some c) (hz : z ∈ ks.drop (k + 1)) : z ≠ c := fun q => by
  have h1 : (ks.drop k).Nodup := List.Nodup.sublist (List.drop_sublist k ks) hn
  rw [dp_s hc] at h1
  exact (List.nodup_cons.mp h1).1 (by rw [← q]; exact hz)
theorem gr01 {a b : Int32} : (if a = 0 then (if b ≤ 0 then (0 : Int32) else 1) else 0) = if a = 0 ∧ 0 < b then 1 else 0 := by
  by_cases x : a = 0
  · rw [if_pos x]
    by_cases y : b ≤ 0
    · rw [if_pos y, if_neg (fun z => absurd z.2 (Int32.not_lt.mpr y))]
    · rw [if_neg y, if_pos ⟨x, Int32.not_le.mp y⟩]
  · rw [if_neg x, if_neg (fun z => x z.1)]
theorem sh152 {S : MM} {ks : List Nat} {w fz g m : Nat → Int32} {rest sum mo : Int32} (hX : SX S ks w fz g m) (hl : ks.length ≤ 24) (hnd : ks.Nodup) (hs : ¬ sum = 0) (hf : ∀ c, c ∈ ks → fz c = 0 ∨ (fz c = 1 ∧ w c = m c)) :
    ∃ S' : MM, ((∀ k c, ks[k]? = some c → S' 38 k = shG rest sum fz g ks mo c ∧ S' 39 k = if shB w fz m (shG rest sum fz g ks mo) c = true then 1 else 0) ∧ ∀ i, i ≠ 38 → i ≠ 39 → S' i = S i) ∧
      ∀ K, m_shares_152 K (nI ks.length) rest sum 1000 0 mo 0 S = K (if ks.any (shB w fz m (shG rest sum fz g ks mo)) = true then 1 else 0) S' := by
  obtain ⟨GN, eG⟩ : ∃ GN : Nat → Int32, GN = shG rest sum fz g ks mo := ⟨_, rfl⟩
  rw [← eG]
  obtain ⟨s, ⟨i1, i2, i3, i4⟩, e⟩ := lp_p (σ := Int32 × Int32 × MM) (τ := Int32 × MM) (pr := fun s => (s.1, s.2.2)) (α := Option MM) (L := fun K fu k s => m_shares_152 (fun a b => K (a, b)) (nI ks.length) rest sum fu s.1 s.2.1 (nI k) s.2.2) (n := ks.length)
    (Inv := fun k s => s.1 = (if (ks.take k).any (shB w fz m GN) = true then 1 else 0) ∧ (∀ z, z ∈ ks.drop k → GN z = shG rest sum fz g (ks.drop k) s.2.1 z) ∧
      (∀ j c, j < k → ks[j]? = some c → s.2.2 38 j = GN c ∧ s.2.2 39 j = if shB w fz m GN c = true then 1 else 0) ∧ ∀ i, i ≠ 38 → i ≠ 39 → s.2.2 i = S i)
    (fun K fu s _ => by
      show m_shares_152 (fun a b => K (a, b)) (nI ks.length) rest sum (fu + 1) s.1 s.2.1 (nI ks.length) s.2.2 = K (s.1, s.2.2)
      rw [m_shares_152, if_pos (Int32.le_refl _)])
    (fun fu k s hk hi => by
      obtain ⟨i1, i2, i3, i4⟩ := hi
      obtain ⟨x3, x6, S1⟩ := s
      have i1' : x3 = (if (ks.take k).any (shB w fz m GN) = true then 1 else 0) := i1
      have i2' : ∀ z, z ∈ ks.drop k → GN z = shG rest sum fz g (ks.drop k) x6 z := i2
      have i3' : ∀ j c, j < k → ks[j]? = some c → S1 38 j = GN c ∧ S1 39 j = if shB w fz m GN c = true then 1 else 0 := i3
      have i4' : ∀ i, i ≠ 38 → i ≠ 39 → S1 i = S i := i4
      clear i1 i2 i3 i4
      obtain ⟨c, hc⟩ := at_k hk
      obtain ⟨c1, c2, c3, c4, c5, c6, c7⟩ := hX k c hc
      rw [dp_s hc] at i2'
      have hGc : GN c = if fz c = 0 ∧ 0 < g c then rest * g c / sum + (if x6 ≤ 0 then 0 else 1) else 0 := by
        rw [i2' c List.mem_cons_self, shG, if_pos rfl]
      obtain ⟨S2, eS⟩ : ∃ S2, S2 = u2 (u2 S1 38 k (GN c)) 39 k (if shB w fz m GN c = true then 1 else 0) := ⟨_, rfl⟩
      have hx6 : x6 - (if (if fz c = 0 ∧ 0 < g c then (1 : Int32) else 0) = 0 then 0 else if x6 ≤ 0 then 0 else 1) = if fz c = 0 ∧ 0 < g c ∧ 0 < x6 then x6 - 1 else x6 := by
        by_cases a : fz c = 0 ∧ 0 < g c
        · rw [if_pos a, if_neg (by decide)]
          by_cases b : x6 ≤ 0
          · rw [if_pos b, if_neg (fun z => absurd z.2.2 (Int32.not_lt.mpr b)), Int32.sub_zero]
          · rw [if_neg b, if_pos ⟨a.1, a.2, Int32.not_le.mp b⟩]
        · rw [if_neg a, if_pos rfl, if_neg (fun z => a ⟨z.1, z.2.1⟩), Int32.sub_zero]
      have hB : (if w c + GN c ≤ capm (m c) (w c + GN c) then (0 : Int32) else 1) = if shB w fz m GN c = true then 1 else 0 := by
        unfold shB
        rcases hf c (List.mem_of_getElem? hc) with a | ⟨a, b⟩
        · by_cases q : w c + GN c ≤ capm (m c) (w c + GN c)
          · rw [if_pos q, if_neg (fun z => (decide_eq_true_iff.mp z).2 q)]
          · rw [if_neg q, if_pos (decide_eq_true_iff.mpr ⟨a, q⟩)]
        · have hz : ¬ fz c = 0 := by rw [a]; decide
          have hG0 : GN c = 0 := by rw [hGc, if_neg (fun z => hz z.1)]
          have hcap : m c + 0 ≤ capm (m c) (m c + 0) := by
            rw [Int32.add_zero]
            unfold capm
            by_cases t : m c = -2
            · rw [if_pos t]; exact Int32.le_refl _
            · rw [if_neg t, if_pos (Int32.le_refl _)]; exact Int32.le_refl _
          have hd : ¬ decide (fz c = 0 ∧ ¬ w c + GN c ≤ capm (m c) (w c + GN c)) = true := fun z => hz (decide_eq_true_iff.mp z).1
          rw [if_neg hd, hG0, b, if_pos hcap]
      refine ⟨(if (ks.take (k + 1)).any (shB w fz m GN) = true then 1 else 0, if fz c = 0 ∧ 0 < g c ∧ 0 < x6 then x6 - 1 else x6, S2), ⟨rfl, fun z hz => ?_, fun j d hj hd => ?_, fun i a b => ?_⟩, fun K => ?_⟩
      · have := i2' z (List.mem_cons_of_mem _ hz)
        rw [shG, if_neg (nd_dp hnd hc hz)] at this
        exact this
      · show S2 38 j = GN d ∧ S2 39 j = _
        rw [eS]
        by_cases q : j = k
        · subst q
          rw [hc] at hd
          cases hd
          rw [u2_row (by decide), u2_self, u2_self]
          exact ⟨rfl, rfl⟩
        · rw [u2_row (by decide), u2_ne (fun z => q z.2), u2_ne (fun z => q z.2), u2_row (by decide)]
          exact i3' j d (by omega) hd
      · show S2 i = S i
        rw [eS]
        funext j
        rw [u2_row b, u2_row a, i4' i a b]
      · show m_shares_152 (fun a b => K (a, b)) (nI ks.length) rest sum (fu + 1) x3 x6 (nI k) S1 = m_shares_152 (fun a b => K (a, b)) (nI ks.length) rest sum fu (if (ks.take (k + 1)).any (shB w fz m GN) = true then 1 else 0) (if fz c = 0 ∧ 0 < g c ∧ 0 < x6 then x6 - 1 else x6) (nI (k + 1)) S2
        have r35 : S1 35 = S 35 := i4' 35 (by decide) (by decide)
        have r34 : S1 34 = S 34 := i4' 34 (by decide) (by decide)
        have r25 : S1 25 = S 25 := i4' 25 (by decide) (by decide)
        have r23 : S1 23 = S 23 := i4' 23 (by decide) (by decide)
        have hgain : (if (if fz c = 0 ∧ 0 < g c then (1 : Int32) else 0) = 0 then (0 : Int32) else rest * g c / sum + (if x6 ≤ 0 then 0 else 1)) = GN c := by
          rw [hGc]
          by_cases a : fz c = 0 ∧ 0 < g c
          · rw [if_pos a, if_neg (by decide), if_pos a]
          · rw [if_neg a, if_pos rfl, if_neg a]
        have hany : (if (ks.take k).any (shB w fz m GN) = true then (1 : Int32) else 0) ||| (if shB w fz m GN c = true then 1 else 0) = if (ks.take (k + 1)).any (shB w fz m GN) = true then 1 else 0 := by
          rw [or01, tk_s hc, List.any_append, List.any_cons, List.any_nil, Bool.or_false]
        rw [m_shares_152, if_neg (nI_ge hk (by omega)), if_pos (ix_nI c2 (by omega)), tn_nI (by omega), r34, c3, if_pos (fun _ => og6 c1), of6 c1, r35, c5, r23, c6, gr01, bnd_s, if_pos (fun _ => ⟨og6 c1, hs⟩), hgain, bnd_s, bnd_s, bnd_s, hx6, bnd_s, u2_row (by decide), r34, c3, i42, if_pos (ix_nI (by omega) (by omega)), tn_nI (by omega), u2_row (by decide), r25, c4, u2_self, bnd_s, if_pos (show m_capped_g (u2 S1 38 k (GN c)) (nI c) (w c + GN c) from og2 c1), cap_n c1, u2_row (by decide), r23, c7, hB, bnd_s, if_pos (by by_cases t : shB w fz m GN c = true <;> simp [t]), bnd_s, u2_self, i1', hany, bnd_s, nI_1, ← eS])
    (fu := 1000) (s := (0, mo, S)) (by omega) ⟨by rw [List.take_zero]; rfl, fun z _ => by rw [List.drop_zero, eG], fun j c hj => absurd hj (Nat.not_lt_zero j), fun _ _ _ => rfl⟩
  obtain ⟨x3, x6, S'⟩ := s
  rw [List.take_length] at i1
  have i1' : x3 = (if ks.any (shB w fz m GN) = true then 1 else 0) := i1
  subst i1'
  refine ⟨S', ⟨fun k c hc => i3 k c (List.getElem?_eq_some_iff.mp hc).1 hc, i4⟩, fun K => ?_⟩
  have := e (fun s => K s.1 s.2)
  rw [nI_0] at this
  exact this
theorem sh332 {S S1 : MM} {ks : List Nat} {w fz g m GN : Nat → Int32} {bu : Nat → Bool} (hX : SX S ks w fz g m) (hl : ks.length ≤ 24) (hnd : ks.Nodup) (h1 : ∀ k c, ks[k]? = some c → S1 38 k = GN c ∧ S1 39 k = if bu c = true then 1 else 0) (h2 : ∀ i, i ≠ 38 → i ≠ 39 → S1 i = S i) (an : Bool) :
    ∃ S' : MM, ((∀ k c, ks[k]? = some c → S' 25 (4 * c + 2) = (if bu c = true then m c else if an = true then w c else w c + GN c) ∧ S' 35 k = if bu c = true then 1 else fz c) ∧ (∀ i, (∀ c, c ∈ ks → i ≠ 4 * c + 2) → S' 25 i = S 25 i) ∧ ∀ i, i ≠ 25 → i ≠ 35 → i ≠ 38 → i ≠ 39 → S' i = S i) ∧
      ∀ K, m_shares_332 K (nI ks.length) (if an = true then 1 else 0) 1000 0 S1 = K S' := by
  obtain ⟨s, ⟨i1, i2, i3, i4⟩, e⟩ := lp_0 (σ := MM) (α := Option MM) (L := fun K fu k s => m_shares_332 K (nI ks.length) (if an = true then 1 else 0) fu (nI k) s) (n := ks.length)
    (Inv := fun k s => (∀ j c, j < k → ks[j]? = some c → s 25 (4 * c + 2) = (if bu c = true then m c else if an = true then w c else w c + GN c) ∧ s 35 j = if bu c = true then 1 else fz c) ∧ (∀ j c, k ≤ j → ks[j]? = some c → s 25 (4 * c + 2) = w c ∧ s 35 j = fz c) ∧
      (∀ i, (∀ c, c ∈ ks → i ≠ 4 * c + 2) → s 25 i = S 25 i) ∧ ∀ i, i ≠ 25 → i ≠ 35 → s i = S1 i)
    (fun K fu s _ => by
      show m_shares_332 K (nI ks.length) (if an = true then 1 else 0) (fu + 1) (nI ks.length) s = K s
      rw [m_shares_332, if_pos (Int32.le_refl _)])
    (fun fu k s hk hi => by
      obtain ⟨i1, i2, i3, i4⟩ := hi
      obtain ⟨c, hc⟩ := at_k hk
      obtain ⟨c1, c2, c3, c4, c5, c6, c7⟩ := hX k c hc
      obtain ⟨b1, b2⟩ := h1 k c hc
      obtain ⟨d1, d2⟩ := i2 k c (Nat.le_refl _) hc
      have r34 : s 34 k = nI c := by rw [i4 34 (by decide) (by decide), h2 34 (by decide) (by decide)]; exact c3
      have r38 : s 38 k = GN c := by rw [i4 38 (by decide) (by decide)]; exact b1
      have r39 : s 39 k = if bu c = true then 1 else 0 := by rw [i4 39 (by decide) (by decide)]; exact b2
      have r23 : s 23 (14 * c + 2) = m c := by rw [i4 23 (by decide) (by decide), h2 23 (by decide) (by decide)]; exact c7
      have hne : ∀ j d, j ≠ k → ks[j]? = some d → d ≠ c := fun j d hj hd q => by
        subst q
        exact hj ((List.getElem?_inj (List.getElem?_eq_some_iff.mp hd).1 hnd).mp (hd.trans hc.symm))
      -- what one step writes
      have key : ∀ s' : MM, s' 25 (4 * c + 2) = (if bu c = true then m c else if an = true then w c else w c + GN c) → s' 35 k = (if bu c = true then 1 else fz c) → (∀ i, i ≠ 4 * c + 2 → s' 25 i = s 25 i) → (∀ i, i ≠ k → s' 35 i = s 35 i) → (∀ i, i ≠ 25 → i ≠ 35 → s' i = s i) →
          (∀ j c, j < k + 1 → ks[j]? = some c → s' 25 (4 * c + 2) = (if bu c = true then m c else if an = true then w c else w c + GN c) ∧ s' 35 j = if bu c = true then 1 else fz c) ∧ (∀ j c, k + 1 ≤ j → ks[j]? = some c → s' 25 (4 * c + 2) = w c ∧ s' 35 j = fz c) ∧
          (∀ i, (∀ c, c ∈ ks → i ≠ 4 * c + 2) → s' 25 i = S 25 i) ∧ ∀ i, i ≠ 25 → i ≠ 35 → s' i = S1 i := by
        intro s' k1 k2 k3 k4 k5
        refine ⟨fun j d hj hd => ?_, fun j d hj hd => ?_, fun i hi => ?_, fun i a b => (k5 i a b).trans (i4 i a b)⟩
        · by_cases q : j = k
          · subst q
            rw [hc] at hd
            cases hd
            exact ⟨k1, k2⟩
          · have := hne j d q hd
            rw [k3 _ (by omega), k4 _ q]
            exact i1 j d (by omega) hd
        · have := hne j d (by omega) hd
          rw [k3 _ (by omega), k4 _ (by omega)]
          exact i2 j d (by omega) hd
        · rw [k3 i (hi c (List.mem_of_getElem? hc))]
          exact i3 i hi
      have e0 : ∀ K, m_shares_332 K (nI ks.length) (if an = true then 1 else 0) (fu + 1) (nI k) s = if bu c = true then m_shares_332 K (nI ks.length) (if an = true then 1 else 0) fu (nI (k + 1)) (u2 (u2 s 25 (4 * c + 2) (m c)) 35 k 1) else if an = true then m_shares_332 K (nI ks.length) (if an = true then 1 else 0) fu (nI (k + 1)) s else m_shares_332 K (nI ks.length) (if an = true then 1 else 0) fu (nI (k + 1)) (u2 s 25 (4 * c + 2) (w c + GN c)) := fun K => by
        rw [m_shares_332, if_neg (nI_ge hk (by omega)), if_pos (ix_nI c2 (by omega)), tn_nI (show k < 2 ^ 31 by omega), r39, r34, i42, r38]
        by_cases q : bu c = true
        · rw [if_pos q, if_neg (by decide), if_pos (og2 c1), if_pos (ix_nI (by omega) (by omega)), of2 c1, tn_nI (by omega), r23, bnd_s, bnd_s, nI_1, if_pos q]
        · rw [if_neg q, if_pos rfl, if_neg q, nI_1]
          by_cases t : an = true
          · rw [if_pos t, if_neg (by decide), if_pos t]
          · rw [if_neg t, if_pos rfl, if_pos (ix_nI (by omega) (by omega)), tn_nI (by omega), d1, bnd_s, if_neg t]
      by_cases q : bu c = true
      · refine ⟨u2 (u2 s 25 (4 * c + 2) (m c)) 35 k 1, key _ ?_ ?_ (fun i hi => ?_) (fun i hi => ?_) (fun i a b => ?_), fun K => (e0 K).trans (if_pos q)⟩
        · rw [u2_row (by decide), u2_self, if_pos q]
        · rw [u2_self, if_pos q]
        · rw [u2_row (by decide), u2_ne (fun z => hi z.2)]
        · rw [u2_ne (fun z => hi z.2), u2_row (by decide)]
        · funext j
          rw [u2_row b, u2_row a]
      · by_cases t : an = true
        · refine ⟨s, key _ ?_ ?_ (fun i hi => rfl) (fun i hi => rfl) (fun i a b => rfl), fun K => (e0 K).trans ((if_neg q).trans (if_pos t))⟩
          · rw [if_neg q, if_pos t]; exact d1
          · rw [if_neg q]; exact d2
        · refine ⟨u2 s 25 (4 * c + 2) (w c + GN c), key _ ?_ ?_ (fun i hi => ?_) (fun i hi => ?_) (fun i a b => ?_), fun K => (e0 K).trans ((if_neg q).trans (if_neg t))⟩
          · rw [u2_self, if_neg q, if_neg t]
          · rw [u2_row (by decide), if_neg q]; exact d2
          · rw [u2_ne (fun z => hi z.2)]
          · rw [u2_row (by decide)]
          · funext j
            rw [u2_row a])
    (fu := 1000) (s := S1) (by omega) ⟨fun j c hj => absurd hj (Nat.not_lt_zero j), fun j c _ hc => by
      obtain ⟨c1, c2, c3, c4, c5, c6, c7⟩ := hX j c hc
      rw [h2 25 (by decide) (by decide), h2 35 (by decide) (by decide)]
      exact ⟨c4, c5⟩, fun i _ => by rw [h2 25 (by decide) (by decide)], fun _ _ _ => rfl⟩
  rw [nI_0] at e
  exact ⟨s, ⟨fun k c hc => i1 k c (List.getElem?_eq_some_iff.mp hc).1 hc, i3, fun i a b c d => (i4 i a b).trans (h2 i c d)⟩, e⟩
/-- how many are not frozen -/
def shC (ks : List Nat) (fz : Nat → Int32) : Nat := (ks.filter (fun c => decide (fz c = 0))).length
theorem shC_le (ks : List Nat) (fz : Nat → Int32) : shC ks fz ≤ ks.length := List.length_filter_le _ _
theorem shC_lt {ks : List Nat} {fz fz' : Nat → Int32} (h1 : ∀ c, fz' c = 0 → fz c = 0) : (∀ c, c ∈ ks → fz c = 0 → fz' c = 0) ∨ shC ks fz' < shC ks fz ∧ True := by
  induction ks with
  | nil => exact Or.inl (fun c z => nomatch z)
  | cons a ks ih =>
    have hle : shC ks fz' ≤ shC ks fz := by
      clear ih
      induction ks with
      | nil => exact Nat.le_refl _
      | cons b ks ih =>
        unfold shC at *
        rw [List.filter_cons, List.filter_cons]
        by_cases q : fz' b = 0
        · rw [if_pos (decide_eq_true_iff.mpr q), if_pos (decide_eq_true_iff.mpr (h1 b q)), List.length_cons, List.length_cons]
          omega
        · rw [if_neg (fun z => q (decide_eq_true_iff.mp z))]
          by_cases t : fz b = 0
          · rw [if_pos (decide_eq_true_iff.mpr t), List.length_cons]
            omega
          · rw [if_neg (fun z => t (decide_eq_true_iff.mp z))]
            exact ih
    unfold shC at *
    rw [List.filter_cons, List.filter_cons]
    by_cases q : fz' a = 0
    · rw [if_pos (decide_eq_true_iff.mpr q), if_pos (decide_eq_true_iff.mpr (h1 a q)), List.length_cons, List.length_cons]
      rcases ih with z | z
      · refine Or.inl (fun c hc h0 => ?_)
        rcases List.mem_cons.mp hc with y | y
        · rw [y]; exact q
        · exact z c y h0
      · exact Or.inr ⟨by omega, trivial⟩
    · rw [if_neg (fun z => q (decide_eq_true_iff.mp z))]
      by_cases t : fz a = 0
      · rw [if_pos (decide_eq_true_iff.mpr t), List.length_cons]
        exact Or.inr ⟨by omega, trivial⟩
      · rw [if_neg (fun z => t (decide_eq_true_iff.mp z))]
        rcases ih with z | z
        · refine Or.inl (fun c hc h0 => ?_)
          rcases List.mem_cons.mp hc with y | y
          · rw [y] at h0; exact absurd h0 t
          · exact z c y h0
        · exact Or.inr z
theorem shares_l {ks : List Nat} {g m : Nat → Int32} {Wd : Int32} (hl : ks.length ≤ 24) (hnd : ks.Nodup) : ∀ (j : Nat) (w fz : Nat → Int32) (S : MM) (fu : Nat), shC ks fz < j → j + 1 ≤ fu → SX S ks w fz g m → (∀ c, c ∈ ks → fz c = 0 ∨ (fz c = 1 ∧ w c = m c)) →
    ∃ S', m_shares_2 (nI ks.length) Wd fu 1 S = some S' ∧ (∀ c, c ∈ ks → S' 25 (4 * c + 2) = shF ks Wd g m j w fz c) ∧ (∀ i, (∀ c, c ∈ ks → i ≠ 4 * c + 2) → S' 25 i = S 25 i) ∧ ∀ i, i ≠ 25 → i ≠ 35 → i ≠ 38 → i ≠ 39 → S' i = S i := by
  intro j
  induction j with
  | zero => exact fun w fz S fu h => absurd h (Nat.not_lt_zero _)
  | succ j ih =>
    intro w fz S fu hc hfu hX hf
    obtain ⟨fu, rfl⟩ : ∃ z, fu = z + 2 := ⟨fu - 2, by omega⟩
    have hin : ∀ c, c ∈ ks → ∃ k, ks[k]? = some c := fun c h => List.getElem?_of_mem h
    have stop : ∃ S', m_shares_2 (nI ks.length) Wd (fu + 1) 0 S = some S' ∧ (∀ c, c ∈ ks → S' 25 (4 * c + 2) = w c) ∧ (∀ i, (∀ c, c ∈ ks → i ≠ 4 * c + 2) → S' 25 i = S 25 i) ∧ ∀ i, i ≠ 25 → i ≠ 35 → i ≠ 38 → i ≠ 39 → S' i = S i :=
      ⟨S, by rw [m_shares_2, if_pos rfl], fun c h => by
        obtain ⟨k, hk⟩ := hin c h
        exact (hX k c hk).2.2.2.1, fun _ _ => rfl, fun _ _ _ _ _ => rfl⟩
    rw [m_shares_2, if_neg (by decide), sh15 hX hl]
    unfold shF
    by_cases a : shR w ks Wd ≤ 0
    · rw [if_pos a, if_pos (Or.inl a)]
      exact stop
    · rw [if_neg a]
      by_cases b : shU fz g ks 0 ≤ 0
      · rw [if_pos b, if_pos (Or.inr b)]
        exact stop
      · have hs : ¬ shU fz g ks 0 = 0 := fun z => b (by rw [z]; exact Int32.le_refl _)
        rw [if_neg b, if_neg (fun z => z.elim a b), sh99 hX hl hs]
        obtain ⟨S1, ⟨p1, p2⟩, e1⟩ := sh152 (rest := shR w ks Wd) (sum := shU fz g ks 0) (mo := shO (shR w ks Wd) (shU fz g ks 0) fz g ks (shR w ks Wd)) hX hl hnd hs hf
        rw [show shG (shR w ks Wd) (shU fz g ks 0) fz g ks (shO (shR w ks Wd) (shU fz g ks 0) fz g ks (shR w ks Wd)) = shN ks Wd g w fz from rfl] at p1 e1
        rw [e1]
        generalize shN ks Wd g w fz = GN at p1 e1 ⊢
        obtain ⟨an, ean⟩ : ∃ an, an = ks.any (shB w fz m GN) := ⟨_, rfl⟩
        rw [← ean]
        obtain ⟨S2, ⟨q1, q2, q3⟩, e2⟩ := sh332 (bu := shB w fz m GN) hX hl hnd p1 p2 an
        rw [e2]
        by_cases t : an = true
        · rw [if_pos t, if_pos t]
          have hbu : ∀ c, shB w fz m GN c = true → fz c = 0 := fun c z => by
            unfold shB at z
            exact (decide_eq_true_iff.mp z).1
          have hX2 : SX S2 ks (fun c => if shB w fz m GN c = true then m c else w c) (fun c => if shB w fz m GN c = true then 1 else fz c) g m := fun k c hk => by
            obtain ⟨c1, c2, c3, c4, c5, c6, c7⟩ := hX k c hk
            obtain ⟨d1, d2⟩ := q1 k c hk
            rw [if_pos t] at d1
            refine ⟨c1, c2, by rw [q3 34 (by decide) (by decide) (by decide) (by decide)]; exact c3, d1, d2, by rw [q3 23 (by decide) (by decide) (by decide) (by decide)]; exact c6, by rw [q3 23 (by decide) (by decide) (by decide) (by decide)]; exact c7⟩
          have hlt : shC ks (fun c => if shB w fz m GN c = true then 1 else fz c) < shC ks fz := by
            rcases shC_lt (ks := ks) (fz := fz) (fz' := fun c => if shB w fz m GN c = true then 1 else fz c) (fun c z => by
              by_cases y : shB w fz m GN c = true
              · exact hbu c y
              · rw [show (if shB w fz m GN c = true then (1 : Int32) else fz c) = fz c from if_neg y] at z
                exact z) with z | z
            · rw [ean] at t
              obtain ⟨c, c1, c2⟩ := List.any_eq_true.mp t
              have := z c c1 (hbu c c2)
              rw [show (if shB w fz m GN c = true then (1 : Int32) else fz c) = 1 from if_pos c2] at this
              exact absurd this (by decide)
            · exact z.1
          obtain ⟨S3, f1, f2, f3, f4⟩ := ih _ _ S2 (fu + 1) (by omega) (by omega) hX2 (fun c h => by
            by_cases y : shB w fz m GN c = true
            · exact Or.inr ⟨if_pos y, if_pos y⟩
            · rw [show (if shB w fz m GN c = true then (1 : Int32) else fz c) = fz c from if_neg y, show (if shB w fz m GN c = true then m c else w c) = w c from if_neg y]
              exact hf c h)
          exact ⟨S3, f1, f2, fun i hi => (f3 i hi).trans (q2 i hi), fun i a b c d => (f4 i a b c d).trans (q3 i a b c d)⟩
        · rw [if_neg t, if_neg t]
          refine ⟨S2, by rw [m_shares_2, if_pos rfl], fun c h => ?_, q2, q3⟩
          obtain ⟨k, hk⟩ := hin c h
          have := (q1 k c hk).1
          have hb : ¬ shB w fz m GN c = true := fun z => t (by rw [ean]; exact List.any_eq_true.mpr ⟨c, h, z⟩)
          rw [if_neg hb, if_neg t] at this
          exact this
