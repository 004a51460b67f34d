/-! ===== the class at rest: what a walk that only finds leaves ===== -/
theorem AL_f {h h' : Hp} {l d : Nat} {xs : List Nat} (hg : Good h) (K : KP h h') (e1 : hI h' fA_size l = hI h fA_size l) (e2 : hR h' fA_elementData l = hR h fA_elementData l) (e3 : d ≠ 4 → hK h d = 103 → hQ h' d = hQ h d) (H : AL h l d xs) : AL h' l d xs := by
  obtain ⟨a1, a2, a3, a4, a5⟩ := H
  refine ⟨KP_k hg K a1 (by decide), e1.trans a2, e2.trans a3, a4, ?_⟩
  rcases a5 with q | ⟨q1, q2, q3, q4, q5⟩
  · exact Or.inl q
  · refine Or.inr ⟨q1, KP_k hg K q2 (by decide), ?_, ?_, fun i x hx => ?_⟩
    · rw [KP_l hg K q2 (by decide)]
      exact q3
    · rw [KP_l hg K q2 (by decide)]
      exact q4
    · rw [e3 (by omega) q2]
      exact q5 i x hx
theorem AL_dk {h : Hp} {l d : Nat} {xs : List Nat} (H : AL h l d xs) : d = 4 ∨ (6 ≤ d ∧ hK h d = 103) := by
  rcases H.2.2.2.2 with q | q
  · exact Or.inl q.1
  · exact Or.inr ⟨q.1, q.2.1⟩
theorem AL_dn {h : Hp} {l d : Nat} {xs : List Nat} (hg : Good h) (H : AL h l d xs) : d < hN h := by
  rcases AL_dk H with q | q
  · have := hg.1
    omega
  · exact (kind_in hg q.2 (by decide)).2
def up9 (D : Nat → Nat) (d : Nat) : Nat → Nat := fun i => if i = 9 then d else D i
theorem up9_o {D : Nat → Nat} {d i : Nat} (h : i ≠ 9) : up9 D d i = D i := if_neg h
theorem up9_9 {D : Nat → Nat} {d : Nat} : up9 D d 9 = d := if_pos rfl
theorem DR_f {S : MM} {h h' : Hp} (e1 : hI h' fD_kind = hI h fD_kind) (e2 : hI h' fD_number = hI h fD_number) (e3 : hI h' fD_variable = hI h fD_variable) {i : Nat} {o : Option Nat} (H : DR S h i o) : DR S h' i o := by
  cases o with
  | none => exact H
  | some d =>
    unfold DR at *
    simp only [e1, e2, e3]
    exact H
theorem UD_f {h h' : Hp} (hg : Good h) (K : KP h h') (e : hR h' fU_declarations = hR h fU_declarations) {r D : Nat} (H : UD h r D) : UD h' r D := by
  obtain ⟨a, b, c, d⟩ := H
  exact ⟨KP_k hg K a (by decide), by rw [e]; exact b, KP_k hg K c (by decide), by rw [KP_l hg K c (by decide)]; exact d⟩
theorem FXD_f {A : Nat → Nat} {h h' : Hp} (hg : Good h) (K : KP h h') (fR : ∀ f, (f = fH_tree ∨ f = fH_cascade ∨ f = fH_book ∨ f = fT_row ∨ f = fT_idle ∨ f = fC_book ∨ f = fC_listed ∨ f = fC_deciding ∨ f = fC_passed ∨ f = fC_needed ∨ f = fB_rules ∨ f = fB_byStrength) → hR h' f = hR h f) (H : FXD A h) : FXD A h' := by
  obtain ⟨⟨a1, a2, a3, a4⟩, ⟨b1, b2, b3⟩, ⟨c1, c2, c3, c4, c5, c6⟩, ⟨d1, d2, d3⟩, e1, e2, e3, e4, e5, e6⟩ := H
  refine ⟨⟨KP_k hg K a1 (by decide), ?_, ?_, ?_⟩, ⟨KP_k hg K b1 (by decide), ?_, ?_⟩, ⟨KP_k hg K c1 (by decide), ?_, ?_, ?_, ?_, ?_⟩, ⟨KP_k hg K d1 (by decide), ?_, ?_⟩, KP_k hg K e1 (by decide), ?_, KP_k hg K e3 (by decide), ?_, KP_k hg K e5 (by decide), ?_⟩
  · rw [fR fH_tree (by simp)]; exact a2
  · rw [fR fH_cascade (by simp)]; exact a3
  · rw [fR fH_book (by simp)]; exact a4
  · rw [fR fT_row (by simp)]; exact b2
  · rw [fR fT_idle (by simp)]; exact b3
  · rw [fR fC_book (by simp)]; exact c2
  · rw [fR fC_listed (by simp)]; exact c3
  · rw [fR fC_deciding (by simp)]; exact c4
  · rw [fR fC_passed (by simp)]; exact c5
  · rw [fR fC_needed (by simp)]; exact c6
  · rw [fR fB_rules (by simp)]; exact d2
  · rw [fR fB_byStrength (by simp)]; exact d3
  · rw [KP_l hg K e1 (by decide)]; exact e2
  · rw [KP_l hg K e3 (by decide)]; exact e4
  · rw [KP_l hg K e5 (by decide)]; exact e6
/-- what a walk that finds leaves as it was -/
def FND (A D : Nat → Nat) (h h' : Hp) (d' : Nat) : Prop := Good h' ∧ KP h h' ∧
  (∀ f x, f ≠ fA_modCount → f ≠ fA_size → (f < 258 ∨ 266 < f) → f ≠ fH_lastReached → hI h' f x = hI h f x) ∧ (∀ x, x ≠ A 9 → hI h' fA_size x = hI h fA_size x) ∧
  (∀ f, f ≠ fA_elementData → f ≠ fE_kept → f ≠ fE_fresh → hR h' f = hR h f) ∧ (∀ x, x ≠ A 9 → hR h' fA_elementData x = hR h fA_elementData x) ∧ (∀ x, x < hN h → x ≠ D 9 → x ≠ A 4 → hQ h' x = hQ h x) ∧
  ((∃ xs, AL h' (A 9) d' xs) ∧ CP h' d') ∧ (d' = D 9 ∨ hN h ≤ d')
theorem TR1_f {S : MM} {h h' : Hp} {ra : Nat → Nat} {pa : Nat → Nat → Nat} {Dd Pl dP : Nat → Nat} {r : Nat} (hg : Good h) (K : KP h h') (fI : ∀ f, (f = fU_least ∨ f = fU_group ∨ f = fU_number ∨ f = fU_weightInAll ∨ f = fU_declarationCount ∨ f = fP_tag ∨ f = fP_has ∨ f = fP_lacks ∨ f = fP_way ∨ f = fD_kind ∨ f = fD_number ∨ f = fD_variable) → hI h' f = hI h f)
    (e1 : hR h' fU_parts = hR h fU_parts) (e2 : hR h' fU_declarations = hR h fU_declarations) (eA : AL h' (Pl r) (dP r) ((List.range (tn (S 11 r))).map (pa r))) (eQ : hQ h' (Dd r) = hQ h (Dd r)) (H : TR1 S h ra pa Dd Pl dP r) : TR1 S h' ra pa Dd Pl dP r := by
  obtain ⟨⟨u1, u2, u3, u4, u5⟩, ⟨p1, p2⟩, p3, p4, p5⟩ := H
  refine ⟨⟨?_, ?_, ?_, ?_, ?_⟩, ⟨?_, eA⟩, fun k hk => ?_, UD_f hg K e2 p4, fun p hp => ⟨fun d hd => ?_, ?_⟩⟩
  · rw [fI fU_least (by simp)]; exact u1
  · rw [fI fU_group (by simp)]; exact u2
  · rw [fI fU_number (by simp)]; exact u3
  · rw [fI fU_weightInAll (by simp)]; exact u4
  · rw [fI fU_declarationCount (by simp)]; exact u5
  · rw [e1]; exact p1
  · obtain ⟨a, b, c, d, e⟩ := p3 k hk
    rw [fI fP_tag (by simp), fI fP_has (by simp), fI fP_lacks (by simp), fI fP_way (by simp)]
    exact ⟨KP_k hg K a (by decide), b, c, d, e⟩
  · rw [eQ] at hd
    exact KP_k hg K ((p5 p hp).1 d hd) (by decide)
  · rw [eQ]
    exact DR_f (fI fD_kind (by simp)) (fI fD_number (by simp)) (fI fD_variable (by simp)) (p5 p hp).2
theorem TEL_f {S : MM} {n : Nat} {h h' : Hp} {Ee : Nat → Nat} (fI : ∀ f, (f = fE_number ∨ f = fE_tag ∨ f = fE_classes ∨ f = fE_words ∨ f = fE_isContainer) → hI h' f = hI h f) (fR : ∀ f, (f = fE_parent ∨ f = fE_ahead ∨ f = fE_next ∨ f = fE_first ∨ f = fE_last) → hR h' f = hR h f) (H : TEL S n h Ee) : TEL S n h' Ee := by
  refine ⟨H.1, fun e he => ?_⟩
  rw [fI fE_number (by simp), fI fE_tag (by simp), fI fE_classes (by simp), fI fE_words (by simp), fI fE_isContainer (by simp), fR fE_parent (by simp), fR fE_ahead (by simp), fR fE_next (by simp), fR fE_first (by simp), fR fE_last (by simp)]
  exact H.2 e he
theorem TLD_fr {A D : Nat → Nat} {m : Nat} {h h' : Hp} {S : MM} {n R d' : Nat} {Ee : Nat → Nat} {is ss : List Nat} {ra : Nat → Nat} {pa : Nat → Nat → Nat} {Dd Pl dP : Nat → Nat} (T : TLD A D m h S n R Ee is ss ra pa Dd Pl dP) (F : FND A D h h' d') (hE : ELS A m h' ((List.range n).map Ee ++ is)) : TLD A (up9 D d') m h' S n R Ee is ss ra pa Dd Pl dP := by
  obtain ⟨hg, hX, ⟨l7, l8, l9, l10, l11, lp⟩, _, hT, ⟨ri, di, hR⟩, hx, s1, s2⟩ := T
  obtain ⟨g', K, fI, fS, fR, fE, fQ, l9', hd'⟩ := F
  have fIf : ∀ f, f ≠ fA_modCount → f ≠ fA_size → (f < 258 ∨ 266 < f) → f ≠ fH_lastReached → hI h' f = hI h f := fun f a b c d => funext fun x => fI f x a b c d
  obtain ⟨⟨_, p79, _, _, p89, _, _, p910, p911, _⟩, pr, prr⟩ := ls_pw lp
  have k4 := hX.2.2.2.2.1
  obtain ⟨xs9, a9⟩ := l9.1
  have d9 := AL_dk a9
  have q4 : ∀ x, hK h x = 103 → x ≠ A 4 := fun x hx z => by
    rw [z, k4] at hx
    exact absurd hx (by decide)
  have alf : ∀ {l d : Nat} {xs : List Nat}, AL h l d xs → l ≠ A 9 → (d = D 9 → d = 4) → AL h' l d xs := fun {l d xs} H hl hd => AL_f hg K (fS l hl) (fE l hl) (fun n4 k => fQ d (kind_in hg k (by decide)).2 (fun z => n4 (hd z)) (q4 d k)) H
  have q105 : ∀ x, hK h x = 105 → hQ h' x = hQ h x := fun x hx => fQ x (kind_in hg hx (by decide)).2 (fun z => by
    rcases d9 with y | y
    · have := (kind_in hg hx (by decide)).1
      omega
    · rw [z, y.2] at hx
      exact absurd hx (by decide)) (fun z => by
    rw [z, k4] at hx
    exact absurd hx (by decide))
  have big : ∀ {l d : Nat} {xs : List Nat}, AL h l d xs → (d = D 9 → d = 4) → (d = d' → d = 4) := fun {l d xs} H hd z => by
    rcases hd' with y | y
    · exact hd (z.trans y)
    · have := AL_dn hg H
      omega
  refine ⟨g', FXD_f hg K (fun f hf => ?_) hX, ⟨?_, ?_, ?_, ?_, ?_, ?_⟩, hE, TEL_f (fun f hf => ?_) (fun f hf => ?_) hT, ⟨ri, di, fun r hr => ?_⟩, hx, ?_, ?_⟩
  · rcases hf with z | z | z | z | z | z | z | z | z | z | z | z <;> subst z <;> exact fR _ (by decide) (by decide) (by decide)
  · rw [up9_o (by decide)]
    exact alf l7 p79.1 p79.2
  · rw [up9_o (by decide)]
    exact alf l8 p89.1 p89.2
  · rw [up9_9]
    exact l9'
  · rw [up9_o (by decide)]
    exact alf l10 (fun z => p910.1 z.symm) (fun z => by rw [z]; exact p910.2 z.symm)
  · rw [up9_o (by decide)]
    exact alf l11 (fun z => p911.1 z.symm) (fun z => by rw [z]; exact p911.2 z.symm)
  · unfold lsA at lp ⊢
    rw [up9_o (show 7 ≠ 9 by decide), up9_o (show 8 ≠ 9 by decide), up9_o (show 10 ≠ 9 by decide), up9_o (show 11 ≠ 9 by decide), up9_9]
    obtain ⟨h1, lp⟩ := List.pairwise_cons.mp lp
    obtain ⟨h2, lp⟩ := List.pairwise_cons.mp lp
    obtain ⟨h3, lp⟩ := List.pairwise_cons.mp lp
    have n7 : pw (A 7, D 7) (A 9, d') := ⟨p79.1, big l7 p79.2⟩
    have n8 : pw (A 8, D 8) (A 9, d') := ⟨p89.1, big l8 p89.2⟩
    refine List.pairwise_cons.mpr ⟨fun y hy => ?_, List.pairwise_cons.mpr ⟨fun y hy => ?_, List.pairwise_cons.mpr ⟨fun y hy => ?_, lp⟩⟩⟩
    · rcases List.mem_cons.mp hy with z | z
      · exact h1 y (z ▸ List.mem_cons_self)
      · rcases List.mem_cons.mp z with z | z
        · rw [z]
          exact n7
        · exact h1 y (List.mem_cons_of_mem _ (List.mem_cons_of_mem _ z))
    · rcases List.mem_cons.mp hy with z | z
      · rw [z]
        exact n8
      · exact h2 y (List.mem_cons_of_mem _ z)
    · refine ⟨(h3 y hy).1, fun z => ?_⟩
      rcases hd' with y1 | y1
      · rw [y1] at z ⊢
        exact (h3 y hy).2 z
      · have yl : y.2 < hN h := by
          rcases List.mem_cons.mp hy with w | w
          · rw [w]
            exact AL_dn hg l10
          · rcases List.mem_cons.mp w with w | w
            · rw [w]
              exact AL_dn hg l11
            · obtain ⟨r, hr, rfl⟩ := List.mem_map.mp w
              exact AL_dn hg (hR r (List.mem_range.mp hr)).2.1.2
        have z : d' = y.2 := z
        omega
  · rcases hf with z | z | z | z | z <;> subst z <;> exact fIf _ (by decide) (by decide) (by decide) (by decide)
  · rcases hf with z | z | z | z | z <;> subst z <;> exact fR _ (by decide) (by decide) (by decide)
  · have H := hR r hr
    refine TR1_f hg K (fun f hf => ?_) (fR _ (by decide) (by decide) (by decide)) (fR _ (by decide) (by decide) (by decide)) (alf H.2.1.2 (fun z => (pr r hr).2.2.1.1 z.symm) (fun z => by rw [z]; exact (pr r hr).2.2.1.2 z.symm)) (q105 _ H.2.2.2.1.2.2.1) H
    rcases hf with z | z | z | z | z | z | z | z | z | z | z | z <;> subst z <;> exact fIf _ (by decide) (by decide) (by decide) (by decide)
  · rw [fI _ _ (by decide) (by decide) (by decide) (by decide)]
    exact s1
  · rw [fI _ _ (by decide) (by decide) (by decide) (by decide)]
    exact s2
