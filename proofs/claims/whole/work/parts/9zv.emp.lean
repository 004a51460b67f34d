/-! ===== the call empty: both sides ===== -/
theorem op_empty (l : Launch) (G : Gl) {A : Nat → Nat} {m b : Nat} {h : Hp} {S : MM} (H : CI A m h S b) (x : Int32) :
    (∃ (h2 : Hp) (S' : MM) (w : Int32), MRw l G yX11_empty (.code yX11_empty cX11_empty 4 (Option.some Jvm.ClassFile.FieldType.int)) 12 30 600 [.ref (A 0), .int x] h (.inl (some (.int w), h2)) ∧ m_empty S x = some (w, S') ∧ OKr A m h S b h2 S') ∨
    (MRw l G yX11_empty (.code yX11_empty cX11_empty 4 (Option.some Jvm.ClassFile.FieldType.int)) 12 30 600 [.ref (A 0), .int x] h (.inr (xI, h)) ∧ m_empty S x = some (0, u2 S 0 0 1)) := by
  obtain ⟨D, n, R, Ee, is, ss, ra, pa, Dd, Pl, dP, T, N, O, hl, M, nu, z, len, ky⟩ := H
  have hkH := T.2.1.1.1
  rcases isRule_cs (x := x) N.1.2.1.1 with ⟨r, hr, ex, hi⟩ | ⟨hx, hi⟩
  · subst ex
    have hRr := T.2.2.2.2.2.1.2.2 r hr
    have To : ∀ a, a ≠ 20 → tEmp S r 14 a = S a := fun a ha => funext fun j => if_neg (fun y => ha y.1)
    have Tn : ∀ i, (i < 14 * r ∨ 14 * r + 14 ≤ i) → tEmp S r 14 20 i = S 20 i := fun i hi => if_neg (fun y => by omega)
    have Ti : ∀ i, 14 * r ≤ i → i < 14 * r + 14 → tEmp S r 14 20 i = 0 := fun i a1 a2 => if_pos ⟨rfl, a1, a2⟩
    have hE : ∀ a, 1 ≤ a → a ≤ 19 → tEmp S r 14 a = S a := fun a _ h19 => To a (by omega)
    have T1 : TLD A D m (sI (sQf h (Dd r) (nul (hQ h (Dd r)) 14)) fU_declarationCount (ra r) 0) (tEmp S r 14) n R Ee is ss ra pa Dd Pl dP := by
      have := TLD_dc (T := tEmp S r 14) (Gf := nul (hQ h (Dd r)) 14) (c := 0) hr T hE (fun r' p hr' hne hp => ⟨Tn _ (by omega), by rw [To 21 (by decide)], by rw [To 22 (by decide)]⟩) (by
        rw [cn_0 14 (fun e he => by
          unfold dclS
          rw [Ti _ (by omega) (by omega)]
          rfl)]
        rfl) (fun p hp => ⟨fun d hd => (by
          unfold nul at hd
          rw [if_pos hp] at hd
          cases hd), (by
          rw [show nul (hQ h (Dd r)) 14 p = none from if_pos hp]
          exact Ti _ (by omega) (by omega))⟩) (fun j d hd => by
          unfold nul at hd
          by_cases q : j < 14
          · rw [if_pos q] at hd
            cases hd
          · rw [if_neg q] at hd
            exact T.1.2.2.2.2.1 _ j d hd)
      exact this
    have hD : TDo (tEmp S r 14) R := fun r' p hr' hp => by
      by_cases q : r' = r
      · subst q
        exact Or.inl (Ti _ (by omega) (by omega))
      · rw [Tn _ (by omega), To 21 (by decide), To 22 (by decide)]
        exact N.1.2.2.1 r' p hr' hp
    have N1 := TNR_dc hE hD N
    obtain ⟨h1, eh1⟩ : ∃ y, y = sI (sQf h (Dd r) (nul (hQ h (Dd r)) 14)) fU_declarationCount (ra r) 0 := ⟨_, rfl⟩
    have fI : ∀ g, g ≠ fU_declarationCount → hI h1 g = hI h g := fun g hg => by rw [eh1, iI_ne hg]; rfl
    have fK : KP h h1 := by rw [eh1]; exact ⟨Nat.le_refl _, fun _ _ => ⟨rfl, rfl⟩⟩
    have fR : hR h1 = hR h := by rw [eh1]; rfl
    have fA : hA h1 = hA h := by rw [eh1]; rfl
    have fW : hW h1 = hW h := by rw [eh1]; rfl
    rw [← eh1] at T1
    obtain ⟨h3, j, S', a1, a2, a3, a4, a5, a6, a7, a8, a9⟩ := op_end l G (wt := 0) (b := b) T1 N1 (KO_I (fun g b1 b2 => fI g (fun y => by rw [y] at b2; exact absurd b2 (by decide))) fR fA O) (MMH_f T.1 ⟨fK, fun g y hg => by rw [fI g (fun y => by rw [y] at hg; exact absurd hg (by decide))], fun g _ => by rw [fR], fun y _ _ => by rw [fA], fW⟩ M) (NM_dc hE nu) (fun i hi2 => by rw [Tn _ (by omega)]; exact z i hi2) len (fun Y hY hV => m_empty_ok N.1 N.2.1 hr hi N1.1 hY hV)
    rw [eh1] at a1
    refine Or.inl ⟨h3, S', hI h fU_declarationCount (ra r), c_empty_ok l G hkH (ru_ok T hr) hRr.2.2.2.1 a1 a7, ?_, a3, a4, a5, a6.1, KP_t fK a6.2.1, a6.2.2.trans fW⟩
    rw [a2, hRr.1.2.2.2.2]
  · exact Or.inr ⟨c_empty_x1 l G hkH (ru_no T hx), m_empty_no hi⟩
