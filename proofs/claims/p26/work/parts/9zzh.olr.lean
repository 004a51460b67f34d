/-! ===== old cells, but for the rows of lists ===== -/
def OLR (h h' : Hp) : Prop := KP h h' ∧ ∀ f x, f ≠ fA_elementData → x < hN h → hR h' f x = hR h f x
theorem LW_x {h h' : Hp} {k : Nat} (hg : Good h) (F : OLR h h') (H : LW h k) : LW h' k ∧ vls h' k = vls h k ∧ scs h' k = scs h k := by
  have hk := (kind_in hg H.1 (by decide)).2
  have v : vls h' k = vls h k := by unfold vls; rw [F.2 _ _ (by decide) hk]
  have s : scs h' k = scs h k := by unfold scs; rw [F.2 _ _ (by decide) hk]
  obtain ⟨a, b, c, d, e, f, g⟩ := H
  refine ⟨?_, v, s⟩
  unfold LW LO
  rw [v, s, F.2 _ _ (by decide) hk, F.2 _ _ (by decide) hk]
  exact ⟨KP_k hg F.1 a (by decide), b, c, KP_k hg F.1 d (by decide), by rw [KP_l hg F.1 d (by decide)]; exact e, KP_k hg F.1 f (by decide), by rw [KP_l hg F.1 f (by decide)]; exact g⟩
theorem EW_x {h h' : Hp} {e : Nat} (hg : Good h) (F : OLR h h') (H : EW h e) : EW h' e ∧ frs h' e = frs h e ∧ kpt h' e = kpt h e := by
  have he := (kind_in hg H.1 (by decide)).2
  have f : frs h' e = frs h e := by unfold frs; rw [F.2 _ _ (by decide) he]
  have k : kpt h' e = kpt h e := by unfold kpt; rw [F.2 _ _ (by decide) he]
  obtain ⟨a, b, c, d, g⟩ := H
  refine ⟨⟨KP_k hg F.1 a (by decide), ?_, ?_, ?_, ?_⟩, f, k⟩
  · rw [F.2 _ _ (by decide) he, f]; exact b
  · rw [f]; exact (LW_x hg F c).1
  · rw [F.2 _ _ (by decide) he, k]; exact d
  · rw [k]; exact (LW_x hg F g).1
theorem lks_x {h h' : Hp} {El : List Nat} (hg : Good h) (F : OLR h h') (H : ∀ e, e ∈ El → EW h e) : lks h' El = lks h El ∧ (∀ k, k ∈ lks h El → LW h k) := by
  constructor
  · unfold lks
    rw [List.map_congr_left (fun e he => (EW_x hg F (H e he)).2.1), List.map_congr_left (fun e he => (EW_x hg F (H e he)).2.2)]
  · intro k hk
    rcases List.mem_append.mp hk with q | q
    · obtain ⟨e, he, rfl⟩ := List.mem_map.mp q
      exact (H e he).2.2.1
    · obtain ⟨e, he, rfl⟩ := List.mem_map.mp q
      exact (H e he).2.2.2.2
theorem ELS_x {A : Nat → Nat} {m : Nat} {h h' : Hp} {El : List Nat} (hg : Good h) (F : OLR h h') (H : ELS A m h El) : ELS A m h' El := by
  obtain ⟨h1, h2, h3, h4, h5⟩ := H
  obtain ⟨l1, l2⟩ := lks_x hg F h2
  have ea : ars A h' El = ars A h El := by
    unfold ars
    rw [l1, List.map_congr_left (fun k hk => (LW_x hg F (l2 k hk)).2.1), List.map_congr_left (fun k hk => (LW_x hg F (l2 k hk)).2.2)]
  unfold ELS
  rw [l1, ea]
  exact ⟨h1, fun e he => (EW_x hg F (h2 e he)).1, h3, h4, h5⟩
theorem FXD_x {A : Nat → Nat} {h h' : Hp} (hg : Good h) (F : OLR h h') (H : FXD A h) : FXD A h' := by
  obtain ⟨⟨a1, a2, a3, a4⟩, ⟨b1, b2, b3⟩, ⟨c1, c2, c3, c4, c5, c6⟩, ⟨d1, d2, d3⟩, e1, e2, e3, e4, e5, e6⟩ := H
  have n0 := (kind_in hg a1 (by decide)).2
  have n1 := (kind_in hg b1 (by decide)).2
  have n2 := (kind_in hg c1 (by decide)).2
  have n3 := (kind_in hg d1 (by decide)).2
  have K := F.1
  refine ⟨⟨KP_k hg K a1 (by decide), ?_, ?_, ?_⟩, ⟨KP_k hg K b1 (by decide), ?_, ?_⟩, ⟨KP_k hg K c1 (by decide), ?_, ?_, ?_, ?_, ?_⟩, ⟨KP_k hg K d1 (by decide), ?_, ?_⟩, KP_k hg K e1 (by decide), ?_, KP_k hg K e3 (by decide), ?_, KP_k hg K e5 (by decide), ?_⟩
  · rw [F.2 _ _ (by decide) n0]; exact a2
  · rw [F.2 _ _ (by decide) n0]; exact a3
  · rw [F.2 _ _ (by decide) n0]; exact a4
  · rw [F.2 _ _ (by decide) n1]; exact b2
  · rw [F.2 _ _ (by decide) n1]; exact b3
  · rw [F.2 _ _ (by decide) n2]; exact c2
  · rw [F.2 _ _ (by decide) n2]; exact c3
  · rw [F.2 _ _ (by decide) n2]; exact c4
  · rw [F.2 _ _ (by decide) n2]; exact c5
  · rw [F.2 _ _ (by decide) n2]; exact c6
  · rw [F.2 _ _ (by decide) n3]; exact d2
  · rw [F.2 _ _ (by decide) n3]; exact d3
  · rw [KP_l hg K e1 (by decide)]; exact e2
  · rw [KP_l hg K e3 (by decide)]; exact e4
  · rw [KP_l hg K e5 (by decide)]; exact e6
theorem TEL_x {S : MM} {n : Nat} {h h' : Hp} {Ee : Nat → Nat} (F : OLR h h') (fI : ∀ f x, f ≠ fA_modCount → f ≠ fA_size → x < hN h → hI h' f x = hI h f x) (hn : ∀ e, e < n → Ee e < hN h) (H : TEL S n h Ee) : TEL S n h' Ee := by
  refine ⟨H.1, fun e he => ?_⟩
  have h1 := hn e he
  rw [fI _ _ (by decide) (by decide) h1, fI _ _ (by decide) (by decide) h1, fI _ _ (by decide) (by decide) h1, fI _ _ (by decide) (by decide) h1, fI _ _ (by decide) (by decide) h1, F.2 _ _ (by decide) h1, F.2 _ _ (by decide) h1, F.2 _ _ (by decide) h1, F.2 _ _ (by decide) h1, F.2 _ _ (by decide) h1]
  exact H.2 e he
