/-! ===== the class at rest: the bundles ===== -/
theorem ls_pw {A D : Nat → Nat} {R : Nat} {Pl dP : Nat → Nat} (h : (lsA A D R Pl dP).Pairwise pw) : (pw (A 7, D 7) (A 8, D 8) ∧ pw (A 7, D 7) (A 9, D 9) ∧ pw (A 7, D 7) (A 10, D 10) ∧ pw (A 7, D 7) (A 11, D 11) ∧ pw (A 8, D 8) (A 9, D 9) ∧ pw (A 8, D 8) (A 10, D 10) ∧ pw (A 8, D 8) (A 11, D 11) ∧ pw (A 9, D 9) (A 10, D 10) ∧ pw (A 9, D 9) (A 11, D 11) ∧ pw (A 10, D 10) (A 11, D 11)) ∧
    (∀ r, r < R → pw (A 7, D 7) (Pl r, dP r) ∧ pw (A 8, D 8) (Pl r, dP r) ∧ pw (A 9, D 9) (Pl r, dP r) ∧ pw (A 10, D 10) (Pl r, dP r) ∧ pw (A 11, D 11) (Pl r, dP r)) ∧ ((List.range R).map (fun r => (Pl r, dP r))).Pairwise pw := by
  unfold lsA at h
  obtain ⟨h1, h⟩ := List.pairwise_cons.mp h
  obtain ⟨h2, h⟩ := List.pairwise_cons.mp h
  obtain ⟨h3, h⟩ := List.pairwise_cons.mp h
  obtain ⟨h4, h⟩ := List.pairwise_cons.mp h
  obtain ⟨h5, h⟩ := List.pairwise_cons.mp h
  have m : ∀ r, r < R → (Pl r, dP r) ∈ (List.range R).map (fun r => (Pl r, dP r)) := fun r hr => List.mem_map.mpr ⟨r, List.mem_range.mpr hr, rfl⟩
  refine ⟨⟨h1 _ (by simp), h1 _ (by simp), h1 _ (by simp), h1 _ (by simp), h2 _ (by simp), h2 _ (by simp), h2 _ (by simp), h3 _ (by simp), h3 _ (by simp), h4 _ (by simp)⟩, fun r hr => ?_, h⟩
  have mr := m r hr
  exact ⟨h1 _ (List.mem_cons_of_mem _ (List.mem_cons_of_mem _ (List.mem_cons_of_mem _ (List.mem_cons_of_mem _ mr)))), h2 _ (List.mem_cons_of_mem _ (List.mem_cons_of_mem _ (List.mem_cons_of_mem _ mr))), h3 _ (List.mem_cons_of_mem _ (List.mem_cons_of_mem _ mr)), h4 _ (List.mem_cons_of_mem _ mr), h5 _ mr⟩
theorem ex_FW {A D : Nat → Nat} {m : Nat} {h : Hp} {S : MM} {n R : Nat} {Ee : Nat → Nat} {is ss : List Nat} {ra : Nat → Nat} {pa : Nat → Nat → Nat} {Dd Pl dP : Nat → Nat} (T : TLD A D m h S n R Ee is ss ra pa Dd Pl dP) (hT : TOLD S n R) : FW (wO S n h Ee) h (A 2) (A 3) (A 4) (A 5) (A 6) (A 10) (A 9) (D 10) (D 9) ss (pO S R ra pa) (dO h) (uO S n Ee) := by
  have hS := hT.1
  have hZ := ex_ZW T hS
  have hW := ex_TW T hS
  obtain ⟨hg, ⟨_, _, ⟨c1, c2, c3, c4, c5, c6⟩, ⟨b1, b2, b3⟩, k1, k2, k3, k4, k5, k6⟩, ⟨_, _, ⟨l9, cp⟩, l10, _, lp⟩, hE, _, ⟨ri, di, hR⟩, ⟨xs, x1, x2, x3, x4⟩, _⟩ := T
  obtain ⟨⟨_, _, _, _, _, _, _, p910, _, _⟩, pr, _⟩ := ls_pw lp
  obtain ⟨r0, r1, r2, r3, r4⟩ := ar_d hE
  have hss : ∀ x, x ∈ ss → ∃ r, r < R ∧ x = ra r := fun x hx => by
    rw [x1] at hx
    obtain ⟨r, hr, rfl⟩ := List.mem_map.mp hx
    exact ⟨r, (x2 r).mp hr, rfl⟩
  refine ⟨hg, hZ, ⟨c1, c4, k1, k2, c5, k3, k4, c6, k5, k6, r0, fun e he => hE.2.1 _ (Ee_m he), fun e he => ?_, fun e he => ?_⟩, ⟨c2, b1, b3, l10, by rw [x1, List.length_map]; exact x4⟩, ⟨c3, l9, cp, fun z => p910.1 z.symm, fun z => by rw [z]; exact p910.2 z.symm⟩, fun x hx => ?_, fun x hx => ?_, hW⟩
  · have := r4 _ (fr_lk (Ee_m (is := is) he))
    exact ⟨this.1, this.2.1⟩
  · have := r4 _ (fr_lk (Ee_m (is := is) he))
    exact ⟨this.2.2.1, this.2.2.2⟩
  · obtain ⟨r, hr, rfl⟩ := hss x hx
    obtain ⟨_, ⟨a1, a2⟩, a3, a4, _⟩ := hR r hr
    obtain ⟨cc, e11, c11, c12, _⟩ := hT.2.1.1.2.2 r hr
    refine ⟨a4.1, Pl r, dP r, a1, ?_, ?_, fun q hq => ?_, fun z => (pr r hr).2.2.1.1 z.symm, fun z => by rw [z]; exact (pr r hr).2.2.1.2 z.symm⟩
    · rw [pO_r ri hr]
      exact a2
    · rw [pO_r ri hr, List.length_map, List.length_range, e11, tn_nI (by omega)]
      exact c12
    · rw [pO_r ri hr] at hq
      obtain ⟨k, hk, rfl⟩ := List.mem_map.mp hq
      exact (a3 k (List.mem_range.mp hk)).1
  · obtain ⟨r, hr, rfl⟩ := hss x hx
    obtain ⟨_, _, _, a4, a5⟩ := hR r hr
    have ed : dO h (ra r) = Dd r := by
      unfold dO
      rw [a4.2.1]
      rfl
    rw [ed]
    refine ⟨a4, fun p d hp hd => ?_⟩
    obtain ⟨y1, y2⟩ := a5 p hp
    refine ⟨y1 d hd, fun z => ?_⟩
    rw [hd] at y2
    have tt := hT.2.2.1 r p hr hp
    rcases y2 with ⟨u1, u2, _⟩ | ⟨u1, u2⟩ | ⟨u1, u2, u3, _⟩
    · rw [u2] at z
      exact absurd z (by decide)
    · rw [u2] at z
      rcases tt with t | ⟨t, _⟩ | ⟨_, w, hw, ew⟩ | ⟨t, _⟩
      · rw [t] at u1; exact absurd u1 (by decide)
      · rw [t] at u1; exact absurd u1 (by decide)
      · rw [ew] at z
        exact absurd ((nI_eq (b := 5) (by omega) (by decide)).mp z) (by omega)
      · rw [t] at u1; exact absurd u1 (by decide)
    · rcases tt with t | ⟨t, _⟩ | ⟨t, _⟩ | ⟨_, u, hu, eu, _⟩
      · rw [t] at u1; exact absurd u1 (by decide)
      · rw [t] at u1; exact absurd u1 (by decide)
      · rw [t] at u1; exact absurd u1 (by decide)
      · exact ⟨u, hu, u3.trans eu⟩
theorem ex_HW {A D : Nat → Nat} {m : Nat} {h : Hp} {S : MM} {n R : Nat} {Ee : Nat → Nat} {is ss : List Nat} {ra : Nat → Nat} {pa : Nat → Nat → Nat} {Dd Pl dP : Nat → Nat} (T : TLD A D m h S n R Ee is ss ra pa Dd Pl dP) : HW (wO S n h Ee) h (A 0) (A 1) (A 2) (A 7) (D 7) (A 9) (D 9) := by
  obtain ⟨_, ⟨⟨a1, a2, a3, a4⟩, ⟨b1, b2, b3⟩, _⟩, ⟨l7, _, _, _, _, lp⟩, _⟩ := T
  obtain ⟨⟨_, p79, _⟩, _⟩ := ls_pw lp
  exact ⟨a1, a2, a3, b1, b2, l7, p79.1, p79.2⟩
theorem ex_KW {A D : Nat → Nat} {m : Nat} {h : Hp} {S : MM} {n R : Nat} {Ee : Nat → Nat} {is ss : List Nat} {ra : Nat → Nat} {pa : Nat → Nat → Nat} {Dd Pl dP : Nat → Nat} (T : TLD A D m h S n R Ee is ss ra pa Dd Pl dP) : KW (wO S n h Ee) h (fun e => kpt h (Ee e)) (fun e => vls h (kpt h (Ee e))) (fun e => scs h (kpt h (Ee e))) := by
  obtain ⟨_, _, _, hE, ⟨hi, _⟩, _⟩ := T
  obtain ⟨l1, l2, l3⟩ := lk_d hE
  refine ⟨hi, fun e he => ?_, fun e he e' he' z => l3 _ _ (Ee_m he') (Ee_m he) z.symm⟩
  obtain ⟨_, _, _, b, c⟩ := hE.2.1 _ (Ee_m (is := is) he)
  exact ⟨b, c⟩
theorem ex_ER {A D : Nat → Nat} {m : Nat} {h : Hp} {S : MM} {n R : Nat} {Ee : Nat → Nat} {is ss : List Nat} {ra : Nat → Nat} {pa : Nat → Nat → Nat} {Dd Pl dP : Nat → Nat} (T : TLD A D m h S n R Ee is ss ra pa Dd Pl dP) : ER S n (wO S n h Ee) h (uO S n Ee) (upO S) := by
  obtain ⟨_, _, _, _, ⟨hi, hT⟩, _⟩ := T
  refine ⟨rfl, hi, fun e he => ?_⟩
  obtain ⟨⟨t1, t2, t3, t4, t5⟩, s1, s2, s3, s4, s5⟩ := hT e he
  exact ⟨rfl, rfl, rfl, rfl, rfl, rfl, s1, s2, t2, t3, uO_e hi he, rfl⟩
theorem ex_RR {A D : Nat → Nat} {m : Nat} {h : Hp} {S : MM} {n R : Nat} {Ee : Nat → Nat} {is ss : List Nat} {ra : Nat → Nat} {pa : Nat → Nat → Nat} {Dd Pl dP : Nat → Nat} (T : TLD A D m h S n R Ee is ss ra pa Dd Pl dP) (h19 : ∀ r, r < R → S 19 r = -1 ∨ 0 ≤ S 19 r) : RR S R h (dO h) ss (pO S R ra pa) ra pa := by
  obtain ⟨_, _, _, _, _, ⟨ri, di, hR⟩, hx, _⟩ := T
  refine ⟨hx, fun r hr => ?_⟩
  obtain ⟨⟨u1, u2, u3, u4, u5⟩, _, a3, a4, a5⟩ := hR r hr
  have ed : dO h (ra r) = Dd r := by
    unfold dO
    rw [a4.2.1]
    rfl
  rw [ed]
  exact ⟨u1, h19 r hr, u2, u3, pO_r ri hr, fun k hk => (a3 k hk).2, fun p hp => (a5 p hp).2⟩
theorem ex_CC {S : MM} {n : Nat} {h : Hp} {Ee : Nat → Nat} : CC S n (wO S n h Ee) (chl S n) := fun k _ => ⟨rfl, chn_ch k⟩
