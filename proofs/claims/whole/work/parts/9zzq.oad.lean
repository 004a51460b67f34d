/-! ===== the call add: both sides ===== -/
theorem op_add (l : Launch) (G : Gl) {A : Nat → Nat} {m bb : Nat} {h : Hp} {S : MM} (H : CI A m h S bb) (hb : bb < 2 ^ 31) (x t c : Int32) :
    (∃ (h2 : Hp) (S' : MM) (v : Int32), MRw l G yX11_add (.code yX11_add cX11_add 6 (Option.some Jvm.ClassFile.FieldType.int)) 12 30 600 [.ref (A 0), .int x, .int t, .int c] h (.inl (some (.int v), h2)) ∧ m_add S x t c = some (v, S') ∧ OKr A m h S (bb + 1) h2 S') ∨
    (MRw l G yX11_add (.code yX11_add cX11_add 6 (Option.some Jvm.ClassFile.FieldType.int)) 12 30 600 [.ref (A 0), .int x, .int t, .int c] h (.inr (xI, h)) ∧ m_add S x t c = some (0, u2 S 0 0 1)) ∨
    (MRw l G yX11_add (.code yX11_add cX11_add 6 (Option.some Jvm.ClassFile.FieldType.int)) 12 30 600 [.ref (A 0), .int x, .int t, .int c] h (.inr (xA, h)) ∧ m_add S x t c = some (0, u2 S 0 0 2)) ∨
    (MRw l G yX11_add (.code yX11_add cX11_add 6 (Option.some Jvm.ClassFile.FieldType.int)) 12 30 600 [.ref (A 0), .int x, .int t, .int c] h (.inr (xS, h)) ∧ m_add S x t c = some (0, u2 S 0 0 3)) := by
  obtain ⟨D, n, R, Ee, is, ss, ra, pa, Dd, Pl, dP, T, N, O, hl, M, nu, z, len, ky⟩ := H
  have hkH := T.2.1.1.1
  have hS := N.1.1
  cases hp : plc S n x with
  | none =>
    refine Or.inr (Or.inl ⟨c_add_x1 l G hkH (el_no T hp), ?_⟩)
    rw [m_add_no hS (Or.inl hp), hp, if_pos rfl]
  | some p =>
    have hpn := (plc_lt hp).1
    have nn : ¬ (some p : Option Nat) = none := fun y => by cases y
    by_cases q1 : t < 0 ∨ 5 < t
    · refine Or.inr (Or.inr (Or.inl ⟨c_add_x2 l G hkH (el_ok T hp) q1, ?_⟩))
      rw [m_add_no hS (Or.inr (Or.inl (Or.inl (in_0 q1)))), hp, if_neg nn, if_pos (Or.inl (in_0 q1))]
    · by_cases q2 : c < 0 ∨ 255 < c
      · refine Or.inr (Or.inr (Or.inl ⟨c_add_x3 l G hkH (el_ok T hp) q1 q2, ?_⟩))
        rw [m_add_no hS (Or.inr (Or.inl (Or.inr (in_0 q2)))), hp, if_neg nn, if_pos (Or.inr (in_0 q2))]
      · obtain ⟨hg, hX, ⟨l7, l8, l9, l10, l11, lp⟩, hE, hT, _⟩ := id T
        have size : MRw l G yX10_size (.code yX10_size cX10_size 1 (Option.some Jvm.ClassFile.FieldType.int)) 1 0 0 [.ref (A 1)] h (.inl (some (.int (nI n)), h)) := by
          have := c_treeSize l G hX.2.1.1 hX.2.1.2.1 l7.1
          rw [l7.2.1, List.length_map, List.length_range] at this
          exact this
        by_cases h24 : n < 24
        · obtain ⟨⟨p78, _⟩, _⟩ := ls_pw lp
          have hT0 := hT.2 p hpn
          have hes : ∀ y, y ∈ (List.range n).map Ee → hK h y = 3 := fun y hy => (hE.2.1 y (List.mem_append_left _ hy)).1
          obtain ⟨h1, h2, e, kp, d2, Ma, C, g1, A2, F2, g2⟩ := c_treeAppend l G (x1 := t) (x2 := c) (p := Ee p) hg hX.2.1.1 hX.2.1.2.1 hX.2.1.2.2 l7 l8 p78.1 p78.2 (by rw [List.length_map, List.length_range]; omega) hes (fun y hy => hE.2.1 y (List.mem_append_right _ hy)) (List.mem_map.mpr ⟨p, List.mem_range.mpr hpn, rfl⟩) (fun w => (nd_app hE.1).2.2 _ (List.mem_map.mpr ⟨p, List.mem_range.mpr hpn, rfl⟩) _ w rfl) (fun q hq => by
            rw [hT0.2.2.2.2.2] at hq
            cases ho : (chl S n p).getLast? with
            | none => rw [ho] at hq; cases hq
            | some b =>
              rw [ho] at hq
              cases hq
              exact hes _ (List.mem_map.mpr ⟨b, List.mem_range.mpr (gl_lt ho), rfl⟩))
          obtain ⟨is', len', K1, fI1, fS1, fR1, fE1, fQ1, fW1, A1, E1, T1, O1, M1, hkp⟩ := ad_1 T O M len h24 C
          obtain ⟨N2, nu2, hF⟩ := TNR_ad (t := t) (c := c) hpn h24 hb N nu
          obtain ⟨a1, a2, a3, a4, a5, a6⟩ := lkA_s h1 (A 1) e kp (Ee p) t c
          obtain ⟨_, i2, i3, i4, i5⟩ := lkA_i (h := h1) (t := A 1) (e := e) (kp := kp) (p := Ee p) (a := t) (b := c)
          have Klk : KP h1 (lkA h1 (A 1) e kp (Ee p) t c) := ⟨by rw [a1]; exact Nat.le_refl _, fun a _ => ⟨by rw [a2], by rw [a3]⟩⟩
          have hEe : EW h1 e := E1.2.1 e (List.mem_append_left _ (List.mem_append_right _ (List.mem_singleton.mpr rfl)))
          have kt1 : hK h1 (A 1) = 8 := KP_k hg K1 hX.2.1.1 (by decide)
          have kp1 : hK h1 (Ee p) = 3 := KP_k hg K1 (hes _ (List.mem_map.mpr ⟨p, List.mem_range.mpr hpn, rfl⟩)) (by decide)
          have glk : Good (lkA h1 (A 1) e kp (Ee p) t c) := lkA_g g1 (kind_in g1 kt1 (by decide)).2 (kind_in g1 hEe.1 (by decide)).2 (by rw [hkp]; exact (kind_in g1 hEe.2.2.2.2.1 (by decide)).2) (kind_in g1 kp1 (by decide)).2
          have A1l : AL (lkA h1 (A 1) e kp (Ee p) t c) (A 8) (D 8) is' := AL_KP g1 Klk (by rw [lkA_I (by decide) (by decide) (by decide) (by decide) (by decide) (by decide) (by decide)]) (by rw [lkA_R (by decide) (by decide) (by decide) (by decide) (by decide)]) (fun _ => by rw [a5]) A1
          have he : ∀ i, i < n → Ee i ≠ e := fun i hi w => by
            have := (nd_app (nd_app E1.1).1).2.2 (Ee i) (List.mem_map.mpr ⟨i, List.mem_range.mpr hi, rfl⟩) e (List.mem_singleton.mpr rfl)
            exact this w
          have bI : ∀ f, f ≠ fA_modCount → f ≠ fA_size → (f < 192 ∨ 266 < f) → f ≠ fT_nextNumber → hI h2 f = hI h1 f := fun f b1 b2 b3 b4 => (F2.2.2.1 f b1 b2).trans (lkA_I (fun y => by rw [y] at b3; exact absurd b3 (by decide)) (fun y => by rw [y] at b3; exact absurd b3 (by decide)) (fun y => by rw [y] at b3; exact absurd b3 (by decide)) (fun y => by rw [y] at b3; exact absurd b3 (by decide)) (fun y => by rw [y] at b3; exact absurd b3 (by decide)) (fun y => by rw [y] at b3; exact absurd b3 (by decide)) b4)
          have bR : ∀ f, f ≠ fA_elementData → (f < 197 ∨ 201 < f) → hR h2 f = hR h1 f := fun f b1 b2 => (F2.2.2.2.2.1 f b1).trans (lkA_R (fun y => by rw [y] at b2; exact absurd b2 (by decide)) (fun y => by rw [y] at b2; exact absurd b2 (by decide)) (fun y => by rw [y] at b2; exact absurd b2 (by decide)) (fun y => by rw [y] at b2; exact absurd b2 (by decide)) (fun y => by rw [y] at b2; exact absurd b2 (by decide)))
          have K12 : KP h1 h2 := KP_t Klk F2.1
          have K02 : KP h h2 := KP_t K1 K12
          have snn : hI h1 fT_nextNumber (A 1) = S 2 0 := by rw [fI1 _ (by decide) (by decide)]; exact T.2.2.2.2.2.2.2.1
          have T2 := TEL_ad (a := t) (b := c) (kp := kp) hS hpn h24 T1 he snn F2.2.2.1 F2.2.2.2.2.1
          have E2 : ELS A m h2 ((List.range (n + 1)).map (up Ee n e) ++ is') := by
            rw [map_up]
            exact ELS_f g1 K12 (bR _ (by decide) (by decide)) (bR _ (by decide) (by decide)) (bR _ (by decide) (by decide)) (bR _ (by decide) (by decide)) E1
          have hA2 : hA h2 = hA h1 := F2.2.2.2.2.2.2.1.trans a4
          have hW2 : hW h2 = hW h := (F2.2.2.2.2.2.2.2.1.trans a6).trans fW1
          obtain ⟨tn4, tn3, tn2⟩ := tAdd_n (S := S) (n := n) (p := p) (t := t) (c := c)
          have TL2 := TLD_tr (N1 := hN h1) T g2 K02 (fun f b1 b2 b3 b4 => (bI f b1 b2 b3 b4).trans (fI1 f b1 b2)) (fun y y7 y8 => by rw [F2.2.2.2.1 _ y y7, lkA_I (by decide) (by decide) (by decide) (by decide) (by decide) (by decide) (by decide)]; exact fS1 y y8)
            (fun f b1 b2 => (bR f b1 (by omega)).trans (fR1 f b1 b2)) (fun y y7 y8 => by rw [F2.2.2.2.2.2.1 _ y y7, lkA_R (by decide) (by decide) (by decide) (by decide) (by decide)]; exact fE1 y y8) (fun y b1 b2 b3 => by
              rw [F2.2.2.2.2.2.2.2.2 y (Nat.lt_of_lt_of_le b1 (by rw [a1]; exact K1.1)) b2, a5]
              exact fQ1 y b1 b3) (by rw [map_up]; exact A2) (LF_AL glk F2 A1l (fun w => p78.1 w.symm) (fun w => by rw [w]; exact p78.2 w.symm)) (Or.inl rfl) ⟨K1.1, AL_dn g1 A1⟩ (by
              have := F2.2.1
              rw [a1] at this
              exact this) E2 T2 (fun k k1 k2 => tAdd_o (by omega)) (congrFun (tAdd_o (by decide)) 0) (by rw [F2.2.2.1 _ (by decide) (by decide), i5, snn, tn2])
          have hkn : ∀ i, i < n → kpt h1 (Ee i) ≠ kp := fun i hi w => by
            rw [hkp] at w
            exact he i hi ((lk_d E1).2.1 _ _ (List.mem_append_left _ (List.mem_append_left _ (List.mem_map.mpr ⟨i, List.mem_range.mpr hi, rfl⟩))) (List.mem_append_left _ (List.mem_append_right _ (List.mem_singleton.mpr rfl))) w)
          have O2 : KO h2 S (n + 1) (mtA n) (up Ee n e) := KO_ad O1 (fun f b1 b2 => (F2.2.2.1 f (fun y => by rw [y] at b1; exact absurd b1 (by decide)) (fun y => by rw [y] at b1; exact absurd b1 (by decide))).trans (lkA_I (fun y => by rw [y] at b1; exact absurd b1 (by decide)) (fun y => by rw [y] at b1; exact absurd b1 (by decide)) (fun y => by rw [y] at b1; exact absurd b1 (by decide)) (fun y => by rw [y] at b1; exact absurd b1 (by decide)) (fun y => by rw [y] at b1; exact absurd b1 (by decide)) (fun y => by rw [y] at b1; exact absurd b1 (by decide)) (fun y => by rw [y] at b2; exact absurd b2 (by decide)))) (fun y hy => by rw [F2.2.2.1 _ (by decide) (by decide)]; exact i4 y hy) (by rw [F2.2.2.1 _ (by decide) (by decide)]; exact i3) hA2 (bR _ (by decide) (by decide)) (bR _ (by decide) (by decide)) (bR _ (by decide) (by decide)) hkp hkn
          have M2 : MMH m h2 S := MMH_f g1 ⟨K12, fun g y hg => by rw [bI g (fun y => by rw [y] at hg; exact absurd hg (by decide)) (fun y => by rw [y] at hg; exact absurd hg (by decide)) (by omega) (fun y => by rw [y] at hg; exact absurd hg (by decide))], fun g hg => bR g (fun y => by rw [y] at hg; exact absurd hg (by decide)) (by omega), fun y _ _ => by rw [hA2], hW2.trans fW1.symm⟩ M1
          obtain ⟨h3, j, S', r1, r2, r3, r4, r5, r6, r7, r8, r9⟩ := op_end l G (wt := 0) (b := bb + 1) TL2 N2 O2 M2 nu2 (fun i hi => by rw [tAdd_o (by decide)]; exact z i hi) len' (fun Y hY hV => m_add_ok N.1 N.2.1 hF hp (in_1 q1) (in_1 q2) h24 N2.1 hY hV)
          have k2e : hK h2 e = 3 := KP_k g1 K12 hEe.1 (by decide)
          have ne := (TL2.2.2.2.2.1.2 n (Nat.lt_succ_self n)).1.1
          rw [up_i, tn4.1] at ne
          refine Or.inl ⟨h3, S', hI h3 fE_number e, c_add_ok l G hkH (el_ok T hp) q1 q2 hX.1.2.1 hX.2.1.1 size h24 Ma (KP_k hg K02 hkH (by decide)) r1 r7 (KP_k g2 r6.2.1 k2e (by decide)), ?_, r3, r4, r5, r6.1, KP_t K02 r6.2.1, r6.2.2.trans hW2⟩
          rw [r9 _ _ (by decide) (by decide) (by decide) (by decide), ne]
          exact r2
        · have e24 : n = 24 := by
            have := hS.2.2.1
            omega
          refine Or.inr (Or.inr (Or.inr ⟨c_add_x4 l G hkH (el_ok T hp) q1 q2 hX.1.2.1 hX.2.1.1 size e24, ?_⟩))
          rw [m_add_no hS (Or.inr (Or.inr e24)), hp, if_neg nn, if_neg (show ¬ (m_in t 0 5 = 0 ∨ m_in c 0 255 = 0) from fun w => by
            rw [in_1 q1, in_1 q2] at w
            exact absurd w (by decide))]
