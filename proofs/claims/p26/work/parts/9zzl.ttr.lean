/-! ===== the tree is another one: what is told in the heap ===== -/
theorem TLD_tr {A D : Nat → Nat} {m : Nat} {h h2 : Hp} {S T : MM} {n n' R d7 d8 N1 : Nat} {Ee Ee' : Nat → Nat} {is is' ss : List Nat} {ra : Nat → Nat} {pa : Nat → Nat → Nat} {Dd Pl dP : Nat → Nat} (TL : TLD A D m h S n R Ee is ss ra pa Dd Pl dP)
    (g2 : Good h2) (K : KP h h2) (fI : ∀ f, f ≠ fA_modCount → f ≠ fA_size → (f < 192 ∨ 266 < f) → f ≠ fT_nextNumber → hI h2 f = hI h f) (fS : ∀ x, x ≠ A 7 → x ≠ A 8 → hI h2 fA_size x = hI h fA_size x)
    (fR : ∀ f, f ≠ fA_elementData → (f < 192 ∨ 257 < f) → hR h2 f = hR h f) (fE : ∀ x, x ≠ A 7 → x ≠ A 8 → hR h2 fA_elementData x = hR h fA_elementData x) (fQ : ∀ x, x < hN h → x ≠ D 7 → x ≠ D 8 → hQ h2 x = hQ h x)
    (A7 : AL h2 (A 7) d7 ((List.range n').map Ee')) (A8 : AL h2 (A 8) d8 is') (hd8 : d8 = D 8 ∨ hN h ≤ d8) (hN1 : hN h ≤ N1 ∧ d8 < N1) (hd7 : d7 = D 7 ∨ N1 ≤ d7)
    (E2 : ELS A m h2 ((List.range n').map Ee' ++ is')) (hT : TEL T n' h2 Ee') (ge : ∀ k, 10 ≤ k → k ≤ 22 → T k = S k) (g1 : T 1 0 = S 1 0) (s2n : hI h2 fT_nextNumber (A 1) = T 2 0) :
    TLD A (up (up D 8 d8) 7 d7) m h2 T n' R Ee' is' ss ra pa Dd Pl dP := by
  have hlad := lad_n TL
  obtain ⟨hg, hX, ⟨l7, l8, ⟨⟨xs, l9⟩, cp⟩, l10, l11, lp⟩, hE, _, ⟨ri, di, hRr⟩, hx, s1, s2⟩ := TL
  obtain ⟨⟨p1, p2, p3, p4, p5, p6, p7, p8, p9, p10⟩, pr, _⟩ := ls_pw lp
  have gr : RU S T := fun k h1 h2 _ => ge k h1 h2
  have alf : ∀ {l d : Nat} {xs : List Nat}, AL h l d xs → l ≠ A 7 → l ≠ A 8 → (d = D 7 → d = 4) → (d = D 8 → d = 4) → AL h2 l d xs := fun {l d xs} H n1 n2 n3 n4 => AL_f hg K (fS l n1 n2) (fE l n1 n2) (fun n5 k => fQ d (kind_in hg k (by decide)).2 (fun z => n5 (n3 z)) (fun z => n5 (n4 z))) H
  have lp1 : (lsA A (up D 8 d8) R Pl dP).Pairwise pw := pw_up (k := 1) (N := hN h) lp (fun i hi => (hlad i hi).1) (fun i hi hne => by
    unfold lad
    by_cases z : i < 5
    · rw [if_pos z, if_pos z, up_n (by omega)]
    · rw [if_neg z, if_neg z]) (by
    unfold lad
    rw [if_pos (by decide), if_pos (by decide), show 7 + 1 = 8 from rfl, up_i]
    exact hd8)
  have n1 : ∀ i, i < R + 5 → lad (up D 8 d8) dP i < N1 := fun i hi => by
    have := (hlad i hi).1
    unfold lad at this ⊢
    by_cases z : i < 5
    · rw [if_pos z] at this ⊢
      by_cases y : 7 + i = 8
      · rw [y, up_i]
        exact hN1.2
      · rw [up_n y]
        omega
    · rw [if_neg z] at this ⊢
      omega
  have lp2 : (lsA A (up (up D 8 d8) 7 d7) R Pl dP).Pairwise pw := pw_up (k := 0) (N := N1) lp1 n1 (fun i hi hne => by
    unfold lad
    by_cases z : i < 5
    · rw [if_pos z, if_pos z, up_n (by omega)]
    · rw [if_neg z, if_neg z]) (by
    unfold lad
    rw [if_pos (by decide), if_pos (by decide), show 7 + 0 = 7 from rfl, up_i, up_n (by decide)]
    exact hd7)
  have l9' := alf l9 (fun z => p2.1 z.symm) (fun z => p5.1 z.symm) (fun z => by rw [z]; exact p2.2 z.symm) (fun z => by rw [z]; exact p5.2 z.symm)
  refine ⟨g2, FXD_f hg K (fun f hf => ?_) hX, ⟨?_, ?_, ⟨⟨xs, ?_⟩, ?_⟩, ?_, ?_, lp2⟩, E2, hT, ⟨ri, di, fun r hr => ?_⟩, SSo_r gr hx, s2n, ?_⟩
  · rcases hf with z | z | z | z | z | z | z | z | z | z | z | z <;> subst z <;> exact fR _ (by decide) (by decide)
  · rw [up_i]
    exact A7
  · rw [up_n (by decide), up_i]
    exact A8
  · rw [up_n (by decide), up_n (by decide)]
    exact l9'
  · rw [up_n (by decide), up_n (by decide)]
    unfold CP at *
    rcases AL_dk l9 with y | y
    · exact Or.inl y
    · rw [KP_l hg K y.2 (by decide)]
      exact cp
  · rw [up_n (by decide), up_n (by decide)]
    exact alf l10 (fun z => p3.1 z.symm) (fun z => p6.1 z.symm) (fun z => by rw [z]; exact p3.2 z.symm) (fun z => by rw [z]; exact p6.2 z.symm)
  · rw [up_n (by decide), up_n (by decide)]
    exact alf l11 (fun z => p4.1 z.symm) (fun z => p7.1 z.symm) (fun z => by rw [z]; exact p4.2 z.symm) (fun z => by rw [z]; exact p7.2 z.symm)
  · have H := hRr r hr
    obtain ⟨s7, s8, s9, s10, s11⟩ := pr r hr
    have hD := H.2.2.2.1.2.2.1
    have d6 := (kind_in hg hD (by decide)).1
    have ne : ∀ {l d : Nat} {xs : List Nat}, AL h l d xs → Dd r ≠ d := fun {l d xs} H y => by
      rcases AL_dk H with w | w
      · omega
      · rw [y, w.2] at hD
        exact absurd hD (by decide)
    refine TR1_r gr (congrFun (ge 19 (by decide) (by decide)) r) (TR1_f hg K (fun f hf => ?_) (fR _ (by decide) (by decide)) (fR _ (by decide) (by decide)) (alf H.2.1.2 (fun z => s7.1 z.symm) (fun z => s8.1 z.symm) (fun z => by rw [z]; exact s7.2 z.symm) (fun z => by rw [z]; exact s8.2 z.symm)) (fQ _ (kind_in hg hD (by decide)).2 (ne l7) (ne l8)) H)
    rcases hf with z | z | z | z | z | z | z | z | z | z | z | z <;> subst z <;> exact fI _ (by decide) (by decide) (by decide) (by decide)
  · rw [fI _ (by decide) (by decide) (by decide) (by decide), g1]
    exact s2
