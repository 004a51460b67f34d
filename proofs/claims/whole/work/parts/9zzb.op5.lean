/-! ===== the call part: both sides, the whole ===== -/
theorem op_part (l : Launch) (G : Gl) {A : Nat → Nat} {m bb : Nat} {h : Hp} {S : MM} (H : CI A m h S bb) (x w t a b : Int32) :
    (∃ (h2 : Hp) (S' : MM) (v : Int32), MRw l G yX11_part (.code yX11_part cX11_part 7 (Option.some Jvm.ClassFile.FieldType.int)) 12 30 600 [.ref (A 0), .int x, .int w, .int t, .int a, .int b] h (.inl (some (.int v), h2)) ∧ m_part S x w t a b = some (v, S') ∧ OKr A m h S bb h2 S') ∨
    (MRw l G yX11_part (.code yX11_part cX11_part 7 (Option.some Jvm.ClassFile.FieldType.int)) 12 30 600 [.ref (A 0), .int x, .int w, .int t, .int a, .int b] h (.inr (xI, h)) ∧ m_part S x w t a b = some (0, u2 S 0 0 1)) ∨
    (MRw l G yX11_part (.code yX11_part cX11_part 7 (Option.some Jvm.ClassFile.FieldType.int)) 12 30 600 [.ref (A 0), .int x, .int w, .int t, .int a, .int b] h (.inr (xA, h)) ∧ m_part S x w t a b = some (0, u2 S 0 0 2)) ∨
    (MRw l G yX11_part (.code yX11_part cX11_part 7 (Option.some Jvm.ClassFile.FieldType.int)) 12 30 600 [.ref (A 0), .int x, .int w, .int t, .int a, .int b] h (.inr (xS, h)) ∧ m_part S x w t a b = some (0, u2 S 0 0 3)) := by
  obtain ⟨D, n, R, Ee, is, ss, ra, pa, Dd, Pl, dP, T, N, O, hl, M, nu, z, len, ky⟩ := H
  have hkH := T.2.1.1.1
  have hRS := N.1.2.1.1
  rcases isRule_cs (x := x) hRS with ⟨r, hr, ex, hi⟩ | ⟨hx, hi⟩
  · subst ex
    obtain ⟨⟨u1, u2', u3, u4, u5⟩, ⟨q1, q2⟩, q3, q4, q5⟩ := T.2.2.2.2.2.1.2.2 r hr
    obtain ⟨c, c1, c2, c3, c4⟩ := hRS.2.2 r hr
    by_cases qw : w < 0 ∨ 2 < w
    · exact Or.inr (Or.inr (Or.inl ⟨c_part_x2 l G hkH (ru_ok T hr) qw, m_part_no2 hRS hr hi (Or.inl (in_0 qw))⟩))
    · by_cases qp : ptOk t a b
      · have Mc : MRw l G yX7_partCount (.code yX7_partCount cX7_partCount 1 (Option.some Jvm.ClassFile.FieldType.int)) 1 0 0 [.ref (ra r)] h (.inl (some (.int (nI c)), h)) := by
          have := c_partCount l G q4.1 q1 q2.1
          rw [q2.2.1, List.length_map, List.length_range, c1, tn_nI (by omega)] at this
          exact this
        by_cases h3 : c < 3
        · have g0 := nwP_g (w := w) (t := t) (a := a) (b := b) T.1
          have F := nwP_O h w t a b
          obtain ⟨v1, v2, v3, v4, v5, v6⟩ := nwP_s h w t a b
          have T0 := TLD_old g0 F T
          obtain ⟨h0, eh0⟩ : ∃ y, y = nwP h w t a b := ⟨_, rfl⟩
          rw [← eh0] at g0 F v1 v2 v3 v4 v5 v6 T0
          obtain ⟨hg0, hX0, ⟨l7, l8, l9, l10, l11, lp⟩, hE0, hT0, ⟨ri, di, hRr⟩, ⟨xs, x1, x2, x3, x4⟩, _⟩ := id T0
          obtain ⟨⟨k1, k2, k3, k4, k5⟩, ⟨p1, p2⟩, p3, p4, p5⟩ := hRr r hr
          rw [c1, tn_nI (by omega)] at p2 p3
          obtain ⟨h', d1, Ma, A1, F1', g'⟩ := c_ruleAppend l G (q := hN h) g0 p4.1 p1 p2 (by rw [List.length_map, List.length_range]; omega) (fun y hy => by
            obtain ⟨k, hk, rfl⟩ := List.mem_map.mp hy
            exact (p3 k (List.mem_range.mp hk)).1) v2
          have F1 := LF_of F1'
          obtain ⟨⟨e1, e2, e3, e4, e5, e6, e7, e8, e9, e10⟩, pr, _⟩ := ls_pw lp
          obtain ⟨r7, r8, r9, r10, r11⟩ := pr r hr
          have wn : hI h0 fU_weightInAll (ra r) + wei h0 (hN h) = wS (tPart S r c w t a b) r := by
            have ti := tPart_i (S := S) (r := r) (c := c) (w := w) (t := t) (a := a) (b := b)
            rw [wS_pr c1 h3, k4, wei_p (S := tPart S r c w t a b) (i := 3 * r + c) (v4.trans ti.2.1.symm) (v5.trans ti.2.2.1.symm) (v6.trans ti.2.2.2.symm)]
          rw [wn] at Ma
          obtain ⟨h1, eh1⟩ : ∃ y, y = sI h' fU_weightInAll (ra r) (wS (tPart S r c w t a b) r) := ⟨_, rfl⟩
          rw [← eh1] at Ma
          have hra : ra r < hN h' := Nat.lt_of_lt_of_le (kind_in hg0 p4.1 (by decide)).2 F1.1.1
          have g1 : Good h1 := by rw [eh1]; exact gd_sI g' hra
          have K1 : KP h' h1 := by rw [eh1]; exact KP_sI
          have K01 : KP h0 h1 := KP_t F1.1 K1
          have A1h : AL h1 (Pl r) d1 ((List.range c).map (pa r) ++ [hN h]) := by rw [eh1]; exact AL_sI (by decide) A1
          have A10 : AL h1 (A 10) (D 10) ss := by rw [eh1]; exact AL_sI (by decide) (LF_AL hg0 F1 l10 r10.1 r10.2)
          have I1 : ∀ f, f ≠ fA_modCount → f ≠ fA_size → f ≠ fU_weightInAll → hI h1 f = hI h0 f := fun f a1 a2 a3 => by rw [eh1, iI_ne a3]; exact F1.2.2.1 f a1 a2
          have R1 : ∀ f, f ≠ fA_elementData → hR h1 f = hR h0 f := fun f a1 => by rw [eh1, hR_sI]; exact F1.2.2.2.2.1 f a1
          have hk6 : ∀ y, y ∈ ss → hK h1 y = 6 := fun y hy => by
            rw [x1] at hy
            obtain ⟨q, hq, rfl⟩ := List.mem_map.mp hy
            exact KP_k hg0 K01 (hRr q ((x2 q).mp hq)).2.2.2.1.1 (by decide)
          obtain ⟨h2, d2, i, Mk, A2, F2, g2, hi2, s1, s2⟩ := c_rank l G (r := ra r) (ys := ss.filter (fun q => !(q == ra r))) g1 (KP_k hg0 K01 hX0.2.2.2.1.1 (by decide)) (by rw [R1 _ (by decide)]; exact hX0.2.2.2.1.2.2) A10 (by rw [x1, List.length_map]; omega) hk6 (KP_k hg0 K01 p4.1 (by decide)) rfl
          -- the places by strength
          obtain ⟨ys, eys⟩ : ∃ ys, ys = xs.filter (fun q => !(q == r)) := ⟨_, rfl⟩
          have exs : ss.filter (fun q => !(q == ra r)) = ys.map ra := by
            rw [x1, eys, List.filter_map]
            congr 1
            refine List.filter_congr (fun q hq => ?_)
            show (!(ra q == ra r)) = !(q == r)
            by_cases y : q = r
            · rw [y, beq_self_eq_true, beq_self_eq_true]
            · rw [beq_eq_false_iff_ne.mpr y, beq_eq_false_iff_ne.mpr (fun y2 => y (ri q ((x2 q).mp hq) r hr y2))]
          rw [exs] at A2 hi2 s1 s2
          rw [List.length_map] at hi2
          have hys : ∀ q, q ∈ ys ↔ q < R ∧ q ≠ r := fun q => by
            rw [eys, List.mem_filter, x2 q]
            constructor
            · rintro ⟨y1, y2⟩
              exact ⟨y1, fun y3 => by rw [y3, beq_self_eq_true] at y2; exact Bool.noConfusion y2⟩
            · rintro ⟨y1, y2⟩
              exact ⟨y1, by rw [beq_eq_false_iff_ne.mpr y2]; rfl⟩
          have fld : ∀ q, q < R → hI h1 fU_group (ra q) = gS (tPart S r c w t a b) q ∧ hI h1 fU_weightInAll (ra q) = wS (tPart S r c w t a b) q ∧ hI h1 fU_number (ra q) = nI q := fun q hq => by
            obtain ⟨y1, y2, y3, y4, y5⟩ := (hRr q hq).1
            refine ⟨?_, ?_, ?_⟩
            · rw [I1 _ (by decide) (by decide) (by decide), gS_p]; exact y2
            · by_cases y : q = r
              · rw [y, eh1, iI_at]
              · rw [eh1, iI_nb (fun y6 => y (ri q hq r hr y6)), F1.2.2.1 _ (by decide) (by decide), wS_p hRS h3 hq y]; exact y4
            · rw [I1 _ (by decide) (by decide) (by decide)]; exact y3
          have h16 := hRS.2.1
          have pys : ys.Pairwise (fun p q => stB (tPart S r c w t a b) p q = true) := by
            rw [eys]
            have p0 : (xs.filter (fun q => !(q == r))).Pairwise (fun p q => stB S p q = true) := List.Pairwise.sublist List.filter_sublist x3
            refine List.Pairwise.imp_of_mem (fun {p q} hp hq y => ?_) p0
            obtain ⟨p1', p2'⟩ := (hys p).mp (by rw [eys]; exact hp)
            obtain ⟨q1', q2'⟩ := (hys q).mp (by rw [eys]; exact hq)
            rw [stB_p hRS h3 p1' q1' p2' q2']
            exact y
          obtain ⟨n1, n2, n3⟩ := ins_s hys hr pys hi2 (fun j q hj hq => by
            have hqR := ((hys q).mp (List.mem_of_getElem? hq)).1
            exact (sTr_s (by omega) (by omega) (fld q hqR) (fld r hr)).mp (s1 j (ra q) hj (by rw [List.getElem?_map, hq]; rfl))) (fun q hq y => by
            have hqR := ((hys q).mp (List.mem_of_getElem? hq)).1
            exact s2 (ra q) (by rw [List.getElem?_map, hq]; rfl) ((sTr_s (by omega) (by omega) (fld q hqR) (fld r hr)).mpr y))
          have hlt : ys.length < xs.length := by
            rw [eys]
            exact List.length_filter_lt_length_iff_exists.mpr ⟨r, (x2 r).mpr hr, by simp⟩
          have hSS : SSo (tPart S r c w t a b) R ra ((ys.map ra).take i ++ ra r :: (ys.map ra).drop i) := ⟨ys.take i ++ r :: ys.drop i, by rw [List.map_append, List.map_cons, List.map_take, List.map_drop], n1, n2, by omega⟩
          have d10 : d1 = D 10 → d1 = 4 := fun y => by
            rcases F1.2.1 with y2 | y2
            · rw [y2] at y ⊢
              rw [y]
              exact r10.2 y.symm
            · have := AL_dn hg0 l10
              omega
          have A1h2 := LF_AL g1 F2 A1h (fun y => r10.1 y.symm) d10
          have N1 := TNR_pa (w := w) hr c1 h3 qp N
          have TL2 := TLD_pa (h := h0) (N1 := hN h1) T0 hRS hr c1 h3 g2 (KP_t K01 F2.1) (fun f a1 a2 a3 => (F2.2.2.1 f a1 a2).trans (I1 f a1 a2 a3)) (fun y hy => by
            rw [F2.2.2.1 _ (by decide) (by decide), eh1, iI_nb hy]
            exact congrFun (F1.2.2.1 _ (by decide) (by decide)) y) (by rw [F2.2.2.1 _ (by decide) (by decide), eh1, iI_at]) (fun y y1 y2 => by
            rw [F2.2.2.2.1 _ _ y2, eh1, iI_ne (by decide)]
            exact F1.2.2.2.1 _ _ y1) (fun f a1 => (F2.2.2.2.2.1 f a1).trans (R1 f a1)) (fun y y1 y2 => by
            rw [F2.2.2.2.2.2.1 _ _ y2, eh1, hR_sI]
            exact F1.2.2.2.2.2.1 _ _ y1) (fun y y1 y2 y3 => by
            rw [F2.2.2.2.2.2.2.2.2 y (Nat.lt_of_lt_of_le y1 K01.1) y3, eh1, hQ_sI]
            exact F1.2.2.2.2.2.2.2.2 y y1 y2) ⟨v2, v3, v4, v5, v6⟩ A1h2 A2 F1.2.1 ⟨K01.1, AL_dn g1 A1h⟩ F2.2.1 hSS
          have hA2 : hA h2 = hA h0 := by rw [F2.2.2.2.2.2.2.1, eh1, hA_sI]; exact F1.2.2.2.2.2.2.1
          have hW2 : hW h2 = hW h0 := by rw [F2.2.2.2.2.2.2.2.1, eh1, hW_sI]; exact F1.2.2.2.2.2.2.2.1
          have I2 : ∀ f, f ≠ fA_modCount → f ≠ fA_size → f ≠ fU_weightInAll → hI h2 f = hI h0 f := fun f a1 a2 a3 => (F2.2.2.1 f a1 a2).trans (I1 f a1 a2 a3)
          have R2 : ∀ f, f ≠ fA_elementData → hR h2 f = hR h0 f := fun f a1 => (F2.2.2.2.2.1 f a1).trans (R1 f a1)
          have O2 := KO_f (fun g b1 b2 => I2 g (fun y => by rw [y] at b1; exact absurd b1 (by decide)) (fun y => by rw [y] at b1; exact absurd b1 (by decide)) (fun y => by rw [y] at b2; exact absurd b2 (by decide))) (R2 _ (by decide)) (R2 _ (by decide)) (R2 _ (by decide)) hA2 (KO_old T.1 F (fun e he => T.2.2.2.1.2.1 _ (Ee_m he)) O)
          have M2 : MMH m h2 S := MMH_f g0 ⟨KP_t K01 F2.1, fun g y hg => by rw [I2 g (fun y => by rw [y] at hg; exact absurd hg (by decide)) (fun y => by rw [y] at hg; exact absurd hg (by decide)) (fun y => by rw [y] at hg; exact absurd hg (by decide))], fun g hg => R2 g (fun y => by rw [y] at hg; exact absurd hg (by decide)), fun y _ _ => by rw [hA2], hW2⟩ (MMH_old T.1 F M)
          have nuT : NM (tPart S r c w t a b) n bb := by
            unfold NM at *
            rw [tPart_o (by decide), tPart_o (by decide)]
            exact nu
          obtain ⟨h3', j, S', a1, a2, a3, a4, a5, a6, a7, a8, a9⟩ := op_end l G (wt := 0) (b := bb) TL2 N1 O2 M2 nuT (fun i hi2 => by rw [tPart_o (by decide)]; exact z i hi2) len (fun Y hY hV => m_part_ok N.1 N.2.1 hr hi c1 h3 (in_1 qw) qp N1.1 hY hV)
          have hk3 : hK h3' (ra r) = 6 := KP_k g2 a6.2.1 (TL2.2.2.2.2.2.1.2.2 r hr).2.2.2.1.1 (by decide)
          rw [eh0] at Ma
          refine Or.inl ⟨h3', S', hI h3' fU_weightInAll (ra r), c_part_ok l G hkH (ru_ok T hr) q4.1 qw qp Mc h3 Ma (by rw [← eh0]; exact p4.1) (KP_k hg0 K01 hX0.1.1 (by decide)) (by rw [R1 _ (by decide)]; exact hX0.1.2.2.2) (KP_k hg0 K01 hX0.2.2.2.1.1 (by decide)) Mk TL2.2.1.1.1 a1 a7 hk3, ?_, a3, a4, a5, a6.1, KP_t F.1 (KP_t K01 (KP_t F2.1 a6.2.1)), ?_⟩
          · rw [a9 _ _ (by decide) (by decide) (by decide) (by decide), (TL2.2.2.2.2.2.1.2.2 r hr).1.2.2.2.1]
            exact a2
          · rw [a6.2.2, hW2, F.2.2.2.2.2]
        · have e3 : c = 3 := by omega
          refine Or.inr (Or.inr (Or.inr ⟨c_part_x4 l G hkH (ru_ok T hr) q4.1 qw qp Mc e3, m_part_no3 hRS hr hi (in_1 qw) qp ?_⟩))
          rw [c1, e3]
          rfl
      · exact Or.inr (Or.inr (Or.inl ⟨c_part_x3 l G hkH (ru_ok T hr) qw qp, m_part_no2 hRS hr hi (Or.inr qp)⟩))
  · exact Or.inr (Or.inl ⟨c_part_x1 l G hkH (ru_no T hx), m_part_no1 (R := R) hi⟩)
