/-! ===== new cells: what was there stays ===== -/
/-- the old cells are as they were -/
def OLD (h h' : Hp) : Prop := KP h h' ∧ (∀ f x, x < hN h → hI h' f x = hI h f x) ∧ (∀ f x, x < hN h → hR h' f x = hR h f x) ∧ (∀ x, x < hN h → hQ h' x = hQ h x) ∧ (∀ x, x < hN h → hA h' x = hA h x) ∧ hW h' = hW h
theorem OLD_r (h : Hp) : OLD h h := ⟨KP_r h, fun _ _ _ => rfl, fun _ _ _ => rfl, fun _ _ => rfl, fun _ _ => rfl, rfl⟩
theorem OLD_nw {h : Hp} {k n : Nat} : OLD h (nw h k n) := ⟨KP_nw, fun _ _ _ => rfl, fun _ _ _ => rfl, fun _ _ => rfl, fun _ _ => rfl, rfl⟩
theorem OLD_sI {h0 h : Hp} {f a : Nat} {v : Int32} (ha : hN h0 ≤ a) (H : OLD h0 h) : OLD h0 (sI h f a v) := by
  obtain ⟨a1, a2, a3, a4, a5, a6⟩ := H
  refine ⟨KP_t a1 KP_sI, fun g x hx => ?_, a3, a4, a5, a6⟩
  rw [iI_nb (by omega)]
  exact a2 g x hx
theorem OLD_sR {h0 h : Hp} {f a : Nat} {v : Option Nat} (ha : hN h0 ≤ a) (H : OLD h0 h) : OLD h0 (sR h f a v) := by
  obtain ⟨a1, a2, a3, a4, a5, a6⟩ := H
  refine ⟨KP_t a1 ⟨Nat.le_refl _, fun _ _ => ⟨rfl, rfl⟩⟩, a2, fun g x hx => ?_, a4, a5, a6⟩
  rw [rR_nb (by omega)]
  exact a3 g x hx
theorem OLD_t {h h1 h2 : Hp} (A : OLD h h1) (B : OLD h1 h2) : OLD h h2 := by
  obtain ⟨a1, a2, a3, a4, a5, a6⟩ := A
  obtain ⟨b1, b2, b3, b4, b5, b6⟩ := B
  have n := a1.1
  exact ⟨KP_t a1 b1, fun f x hx => (b2 f x (by omega)).trans (a2 f x hx), fun f x hx => (b3 f x (by omega)).trans (a3 f x hx), fun x hx => (b4 x (by omega)).trans (a4 x hx), fun x hx => (b5 x (by omega)).trans (a5 x hx), b6.trans a6⟩
theorem AL_old {h h' : Hp} {l d : Nat} {xs : List Nat} (hg : Good h) (F : OLD h h') (H : AL h l d xs) : AL h' l d xs := by
  have hl := (kind_in hg H.1 (by decide)).2
  exact AL_f hg F.1 (F.2.1 _ _ hl) (F.2.2.1 _ _ hl) (fun _ k => F.2.2.2.1 _ (kind_in hg k (by decide)).2) H
theorem LW_old {h h' : Hp} {k : Nat} (hg : Good h) (F : OLD h h') (H : LW h k) : LW h' k ∧ vls h' k = vls h k ∧ scs h' k = scs h k := by
  have hk := (kind_in hg H.1 (by decide)).2
  have v : vls h' k = vls h k := by unfold vls; rw [F.2.2.1 _ _ hk]
  have s : scs h' k = scs h k := by unfold scs; rw [F.2.2.1 _ _ hk]
  obtain ⟨a, b, c, d, e, f, g⟩ := H
  refine ⟨?_, v, s⟩
  unfold LW LO
  rw [v, s, F.2.2.1 _ _ hk, F.2.2.1 _ _ hk]
  exact ⟨KP_k hg F.1 a (by decide), b, c, KP_k hg F.1 d (by decide), by rw [KP_l hg F.1 d (by decide)]; exact e, KP_k hg F.1 f (by decide), by rw [KP_l hg F.1 f (by decide)]; exact g⟩
theorem EW_old {h h' : Hp} {e : Nat} (hg : Good h) (F : OLD h h') (H : EW h e) : EW h' e ∧ frs h' e = frs h e ∧ kpt h' e = kpt h e := by
  have he := (kind_in hg H.1 (by decide)).2
  have f : frs h' e = frs h e := by unfold frs; rw [F.2.2.1 _ _ he]
  have k : kpt h' e = kpt h e := by unfold kpt; rw [F.2.2.1 _ _ he]
  obtain ⟨a, b, c, d, g⟩ := H
  refine ⟨⟨KP_k hg F.1 a (by decide), ?_, ?_, ?_, ?_⟩, f, k⟩
  · rw [F.2.2.1 _ _ he, f]; exact b
  · rw [f]; exact (LW_old hg F c).1
  · rw [F.2.2.1 _ _ he, k]; exact d
  · rw [k]; exact (LW_old hg F g).1
theorem lks_old {h h' : Hp} {El : List Nat} (hg : Good h) (F : OLD h h') (H : ∀ e, e ∈ El → EW h e) : lks h' El = lks h El ∧ (∀ k, k ∈ lks h El → LW h k) := by
  constructor
  · unfold lks
    rw [List.map_congr_left (fun e he => (EW_old hg F (H e he)).2.1), List.map_congr_left (fun e he => (EW_old hg F (H e he)).2.2)]
  · intro k hk
    rcases List.mem_append.mp hk with q | q
    · obtain ⟨e, he, rfl⟩ := List.mem_map.mp q
      exact (H e he).2.2.1
    · obtain ⟨e, he, rfl⟩ := List.mem_map.mp q
      exact (H e he).2.2.2.2
theorem ELS_old {A : Nat → Nat} {m : Nat} {h h' : Hp} {El : List Nat} (hg : Good h) (F : OLD h h') (H : ELS A m h El) : ELS A m h' El := by
  obtain ⟨h1, h2, h3, h4, h5⟩ := H
  obtain ⟨l1, l2⟩ := lks_old hg F h2
  have ea : ars A h' El = ars A h El := by
    unfold ars
    rw [l1, List.map_congr_left (fun k hk => (LW_old hg F (l2 k hk)).2.1), List.map_congr_left (fun k hk => (LW_old hg F (l2 k hk)).2.2)]
  unfold ELS
  rw [l1, ea]
  exact ⟨h1, fun e he => (EW_old hg F (h2 e he)).1, h3, h4, h5⟩
theorem TR1_old {S : MM} {h h' : Hp} {ra : Nat → Nat} {pa : Nat → Nat → Nat} {Dd Pl dP : Nat → Nat} {r : Nat} (hg : Good h) (F : OLD h h') (H : TR1 S h ra pa Dd Pl dP r) : TR1 S h' ra pa Dd Pl dP r := by
  obtain ⟨⟨u1, u2, u3, u4, u5⟩, ⟨p1, p2⟩, p3, p4, p5⟩ := H
  have hr := (kind_in hg p4.1 (by decide)).2
  have hD := (kind_in hg p4.2.2.1 (by decide)).2
  refine ⟨⟨?_, ?_, ?_, ?_, ?_⟩, ⟨?_, AL_old hg F p2⟩, fun k hk => ?_, ⟨KP_k hg F.1 p4.1 (by decide), ?_, KP_k hg F.1 p4.2.2.1 (by decide), ?_⟩, fun p hp => ⟨fun d hd => ?_, ?_⟩⟩
  · rw [F.2.1 _ _ hr]; exact u1
  · rw [F.2.1 _ _ hr]; exact u2
  · rw [F.2.1 _ _ hr]; exact u3
  · rw [F.2.1 _ _ hr]; exact u4
  · rw [F.2.1 _ _ hr]; exact u5
  · rw [F.2.2.1 _ _ hr]; exact p1
  · obtain ⟨a, b, c, d, e⟩ := p3 k hk
    have hq := (kind_in hg a (by decide)).2
    refine ⟨KP_k hg F.1 a (by decide), ?_, ?_, ?_, fun z => ?_⟩
    · rw [F.2.1 _ _ hq]; exact b
    · rw [F.2.1 _ _ hq]; exact c
    · rw [F.2.1 _ _ hq]; exact d
    · rw [F.2.1 _ _ hq]; exact e z
  · rw [F.2.2.1 _ _ hr]; exact p4.2.1
  · rw [KP_l hg F.1 p4.2.2.1 (by decide)]; exact p4.2.2.2
  · rw [F.2.2.2.1 _ hD] at hd
    exact KP_k hg F.1 ((p5 p hp).1 d hd) (by decide)
  · rw [F.2.2.2.1 _ hD]
    obtain ⟨y1, y2⟩ := p5 p hp
    cases hq : hQ h (Dd r) p with
    | none =>
      rw [hq] at y2
      exact y2
    | some d =>
      rw [hq] at y2
      have hd := (kind_in hg (y1 d hq) (by decide)).2
      unfold DR at *
      simp only [F.2.1 _ _ hd]
      exact y2
theorem FXD_old {A : Nat → Nat} {h h' : Hp} (hg : Good h) (F : OLD h h') (H : FXD A h) : FXD A h' := by
  obtain ⟨⟨a1, a2, a3, a4⟩, ⟨b1, b2, b3⟩, ⟨c1, c2, c3, c4, c5, c6⟩, ⟨d1, d2, d3⟩, e1, e2, e3, e4, e5, e6⟩ := H
  have n0 := (kind_in hg a1 (by decide)).2
  have n1 := (kind_in hg b1 (by decide)).2
  have n2 := (kind_in hg c1 (by decide)).2
  have n3 := (kind_in hg d1 (by decide)).2
  have K := F.1
  refine ⟨⟨KP_k hg K a1 (by decide), ?_, ?_, ?_⟩, ⟨KP_k hg K b1 (by decide), ?_, ?_⟩, ⟨KP_k hg K c1 (by decide), ?_, ?_, ?_, ?_, ?_⟩, ⟨KP_k hg K d1 (by decide), ?_, ?_⟩, KP_k hg K e1 (by decide), ?_, KP_k hg K e3 (by decide), ?_, KP_k hg K e5 (by decide), ?_⟩
  · rw [F.2.2.1 _ _ n0]; exact a2
  · rw [F.2.2.1 _ _ n0]; exact a3
  · rw [F.2.2.1 _ _ n0]; exact a4
  · rw [F.2.2.1 _ _ n1]; exact b2
  · rw [F.2.2.1 _ _ n1]; exact b3
  · rw [F.2.2.1 _ _ n2]; exact c2
  · rw [F.2.2.1 _ _ n2]; exact c3
  · rw [F.2.2.1 _ _ n2]; exact c4
  · rw [F.2.2.1 _ _ n2]; exact c5
  · rw [F.2.2.1 _ _ n2]; exact c6
  · rw [F.2.2.1 _ _ n3]; exact d2
  · rw [F.2.2.1 _ _ n3]; exact d3
  · rw [KP_l hg K e1 (by decide)]; exact e2
  · rw [KP_l hg K e3 (by decide)]; exact e4
  · rw [KP_l hg K e5 (by decide)]; exact e6
theorem TEL_old {S : MM} {n : Nat} {h h' : Hp} {Ee : Nat → Nat} (F : OLD h h') (hn : ∀ e, e < n → Ee e < hN h) (H : TEL S n h Ee) : TEL S n h' Ee := by
  refine ⟨H.1, fun e he => ?_⟩
  have h1 := hn e he
  rw [F.2.1 _ _ h1, F.2.1 _ _ h1, F.2.1 _ _ h1, F.2.1 _ _ h1, F.2.1 _ _ h1, F.2.2.1 _ _ h1, F.2.2.1 _ _ h1, F.2.2.1 _ _ h1, F.2.2.1 _ _ h1, F.2.2.1 _ _ h1]
  exact H.2 e he
theorem Ee_n {A D : Nat → Nat} {m : Nat} {h : Hp} {S : MM} {n R : Nat} {Ee : Nat → Nat} {is ss : List Nat} {ra : Nat → Nat} {pa : Nat → Nat → Nat} {Dd Pl dP : Nat → Nat} (T : TLD A D m h S n R Ee is ss ra pa Dd Pl dP) {e : Nat} (he : e < n) : Ee e < hN h := (kind_in T.1 (T.2.2.2.1.2.1 _ (Ee_m (is := is) he)).1 (by decide)).2
theorem TLD_old {A D : Nat → Nat} {m : Nat} {h h' : Hp} {S : MM} {n R : Nat} {Ee : Nat → Nat} {is ss : List Nat} {ra : Nat → Nat} {pa : Nat → Nat → Nat} {Dd Pl dP : Nat → Nat} (g' : Good h') (F : OLD h h') (T : TLD A D m h S n R Ee is ss ra pa Dd Pl dP) : TLD A D m h' S n R Ee is ss ra pa Dd Pl dP := by
  have hn : ∀ e, e < n → Ee e < hN h := fun e he => Ee_n T he
  obtain ⟨hg, hX, ⟨l7, l8, ⟨⟨xs, l9⟩, cp⟩, l10, l11, lp⟩, hE, hT, ⟨ri, di, hR⟩, hx, s1, s2⟩ := T
  refine ⟨g', FXD_old hg F hX, ⟨AL_old hg F l7, AL_old hg F l8, ⟨⟨xs, AL_old hg F l9⟩, ?_⟩, AL_old hg F l10, AL_old hg F l11, lp⟩, ELS_old hg F hE, TEL_old F hn hT, ⟨ri, di, fun r hr => TR1_old hg F (hR r hr)⟩, hx, ?_, ?_⟩
  · unfold CP at *
    rcases AL_dk l9 with q | q
    · exact Or.inl q
    · rw [KP_l hg F.1 q.2 (by decide)]
      exact cp
  · rw [F.2.1 _ _ (kind_in hg hX.2.1.1 (by decide)).2]
    exact s1
  · rw [F.2.1 _ _ (kind_in hg hX.1.1 (by decide)).2]
    exact s2
theorem MMH_old {m : Nat} {h h' : Hp} {S : MM} (hg : Good h) (F : OLD h h') (H : MMH m h S) : MMH m h' S := by
  obtain ⟨⟨h1, h2⟩, h3, h4⟩ := H
  have hm := (kind_in hg h1 (by decide)).2
  refine ⟨⟨KP_k hg F.1 h1 (by decide), fun k hk => ?_⟩, fun k hk => ?_, fun k hk => ?_⟩
  · obtain ⟨a, b, c⟩ := h2 k hk
    have hb : (if mbo k = true then 101 else 100) ≠ 999 := by split <;> decide
    refine ⟨?_, KP_k hg F.1 b hb, ?_⟩
    · rw [F.2.2.1 _ _ hm]
      exact a
    · rw [KP_l hg F.1 b hb]
      exact c
  · rw [F.2.1 _ _ hm]
    exact h3 k hk
  · obtain ⟨a, b, c⟩ := h2 k hk
    have hb : (if mbo k = true then 101 else 100) ≠ 999 := by split <;> decide
    rw [F.2.2.2.2.1 _ (kind_in hg b hb).2]
    exact h4 k hk
theorem KO_old {h h' : Hp} {S : MM} {n : Nat} {mt : Nat → Option Nat} {Ee : Nat → Nat} (hg : Good h) (F : OLD h h') (hE : ∀ e, e < n → EW h (Ee e)) (H : KO h S n mt Ee) : KO h' S n mt Ee := fun e he => by
  have hk := H e he
  obtain ⟨_, _, k⟩ := EW_old hg F (hE e he)
  obtain ⟨_, v, s⟩ := LW_old hg F (hE e he).2.2.2.2
  have lw := (hE e he).2.2.2.2
  have nk := (kind_in hg lw.1 (by decide)).2
  have nv := (kind_in hg lw.2.2.2.1 (by decide)).2
  have ns := (kind_in hg lw.2.2.2.2.2.1 (by decide)).2
  rw [k]
  cases hm : mt e with
  | none =>
    rw [hm] at hk
    show hI h' fL_isKnown (kpt h (Ee e)) = 0
    rw [F.2.1 _ _ nk]
    exact hk
  | some f =>
    rw [hm] at hk
    have hk : LKo h (kpt h (Ee e)) S f := hk
    show LKo h' (kpt h (Ee e)) S f
    unfold LKo at *
    rw [v, s, F.2.1 _ _ nk, F.2.1 _ _ nk, F.2.1 _ _ nk, F.2.1 _ _ nk, F.2.1 _ _ nk, F.2.1 _ _ nk, F.2.1 _ _ nk, F.2.2.2.2.1 _ nv, F.2.2.2.2.1 _ ns]
    exact hk
/-- new cells leave the class at rest -/
theorem CI_old {A : Nat → Nat} {m b : Nat} {h h' : Hp} {S : MM} (g' : Good h') (F : OLD h h') (H : CI A m h S b) : CI A m h' S b := by
  obtain ⟨D, n, R, Ee, is, ss, ra, pa, Dd, Pl, dP, T, N, O, hl, M, nu, z, len, ky⟩ := H
  refine ⟨D, n, R, Ee, is, ss, ra, pa, Dd, Pl, dP, TLD_old g' F T, N, KO_old T.1 F (fun e he => T.2.2.2.1.2.1 _ (Ee_m he)) O, ?_, MMH_old T.1 F M, nu, z, len, ky⟩
  rw [F.2.1 _ _ (kind_in T.1 T.2.1.1.1 (by decide)).2]
  exact hl
