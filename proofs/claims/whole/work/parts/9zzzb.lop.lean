/-! ===== the law: the loop ===== -/
theorem sx_elements (l : Launch) (G : Gl) {A : Nat → Nat} {m bb o : Nat} {h : Hp} {S : MM} (H : CI A m h S bb) (ho : hK h o = 102) (hl : 0 < hL h o) : ∃ (v : Int32) (h1 h2 : Hp) (S' : MM), MRw l G yX11_elements (.code yX11_elements cX11_elements 1 (Option.some Jvm.ClassFile.FieldType.int)) 12 8 200 [.ref (A 0)] h (.inl (some (.int v), h1)) ∧ MRw l G yX12_elements (.code yX12_elements cX12_elements 1 (Option.some Jvm.ClassFile.FieldType.int)) 0 0 0 [.ref m] h1 (.inl (some (.int v), h2)) ∧ CI A m h2 S' bb ∧ hK h2 o = 102 ∧ 0 < hL h2 o ∧ hK h1 m = 10 := by
  obtain ⟨hc, S', v, M, E, _, C, MM1, g2, K, _⟩ := op_elements l G H
  have hg := (CI_g H).1
  have Mz := z_elements l G MM1.1 E
  rw [MMH_pm MM1] at Mz
  exact ⟨v, hc, pm m hc S', S', M, Mz, C, KP_k hg K ho (by decide), by show 0 < hL hc o; rw [KP_l hg K ho (by decide)]; exact hl, MM1.1.1⟩
theorem sx_reached (l : Launch) (G : Gl) {A : Nat → Nat} {m bb o : Nat} {h : Hp} {S : MM} (H : CI A m h S bb) (ho : hK h o = 102) (hl : 0 < hL h o) : ∃ (v : Int32) (h1 h2 : Hp) (S' : MM), MRw l G yX11_reached (.code yX11_reached cX11_reached 1 (Option.some Jvm.ClassFile.FieldType.int)) 12 8 200 [.ref (A 0)] h (.inl (some (.int v), h1)) ∧ MRw l G yX12_reached (.code yX12_reached cX12_reached 1 (Option.some Jvm.ClassFile.FieldType.int)) 0 0 0 [.ref m] h1 (.inl (some (.int v), h2)) ∧ CI A m h2 S' bb ∧ hK h2 o = 102 ∧ 0 < hL h2 o ∧ hK h1 m = 10 := by
  obtain ⟨hc, S', v, M, E, _, C, MM1, g2, K, _⟩ := op_reached l G H
  have hg := (CI_g H).1
  have Mz := z_reached l G MM1.1 E
  rw [MMH_pm MM1] at Mz
  exact ⟨v, hc, pm m hc S', S', M, Mz, C, KP_k hg K ho (by decide), by show 0 < hL hc o; rw [KP_l hg K ho (by decide)]; exact hl, MM1.1.1⟩
theorem lc_elements {X : Ctx} (C : Cx X yL_law cL_law 7 (some .boolean) [] 20 601024 7293034) {k n H m : Nat} {h h1 h2 : Hp} {u3 u4 v5 v6 : Value} {w : Int32} (hk9 : hK h H = 9) (Mw : MRw (lOf X) (gOf X) yX11_elements (.code yX11_elements cX11_elements 1 (Option.some Jvm.ClassFile.FieldType.int)) 12 8 200 [.ref H] h (.inl (some (.int w), h1))) (hkm1 : hK h1 m = 10) (Mm : MRw (lOf X) (gOf X) yX12_elements (.code yX12_elements cX12_elements 1 (Option.some Jvm.ClassFile.FieldType.int)) 0 0 0 [.ref m] h1 (.inl (some (.int w), h2))) (r1 : k + 8 ≤ 601024) (r2 : n + 200 ≤ 7293034)
    (K : wr X (k + 8) (n + 200) 1734 [.ref 0, .ref H, .ref m, u3, u4, v5, v6] [] h2) : wr X k n 1708 [.ref 0, .ref H, .ref m, u3, u4, v5, v6] [] h := by
  refine r_aload_n (i := 1) C dL_law_1708 rfl rfl (by first | rfl | exact isR_rf _) ?_
  refine r_callVs C v_L_166 Mw dL_law_1709 (by assumption) (ci := 9) (by decide) rfl rfl (As := []) rfl rfl rfl (by omega) (Nat.le_of_ble_eq_true rfl) (by omega) (by omega) ?_
  refine r_aload_n (i := 2) C dL_law_1712 rfl rfl (by first | rfl | exact isR_rf _) ?_
  refine r_callVs C v_L_169 Mm dL_law_1713 (by assumption) (ci := 10) (by decide) rfl rfl (As := []) rfl rfl rfl (by omega) (Nat.le_of_ble_eq_true rfl) (by omega) (by omega) ?_
  refine r_ic_eq (tgt := 1734) C dL_law_1716 (by decide) (fun _ => ?_) (fun c => absurd rfl c)
  exact K
theorem lc_reached {X : Ctx} (C : Cx X yL_law cL_law 7 (some .boolean) [] 20 601024 7293034) {k n H m : Nat} {h h1 h2 : Hp} {u3 u4 v5 v6 : Value} {w : Int32} (hk9 : hK h H = 9) (Mw : MRw (lOf X) (gOf X) yX11_reached (.code yX11_reached cX11_reached 1 (Option.some Jvm.ClassFile.FieldType.int)) 12 8 200 [.ref H] h (.inl (some (.int w), h1))) (hkm1 : hK h1 m = 10) (Mm : MRw (lOf X) (gOf X) yX12_reached (.code yX12_reached cX12_reached 1 (Option.some Jvm.ClassFile.FieldType.int)) 0 0 0 [.ref m] h1 (.inl (some (.int w), h2))) (r1 : k + 8 ≤ 601024) (r2 : n + 200 ≤ 7293034)
    (K : wr X (k + 8) (n + 200) 1734 [.ref 0, .ref H, .ref m, u3, u4, v5, v6] [] h2) : wr X k n 1721 [.ref 0, .ref H, .ref m, u3, u4, v5, v6] [] h := by
  refine r_aload_n (i := 1) C dL_law_1721 rfl rfl (by first | rfl | exact isR_rf _) ?_
  refine r_callVs C v_L_170 Mw dL_law_1722 (by assumption) (ci := 9) (by decide) rfl rfl (As := []) rfl rfl rfl (by omega) (Nat.le_of_ble_eq_true rfl) (by omega) (by omega) ?_
  refine r_aload_n (i := 2) C dL_law_1725 rfl rfl (by first | rfl | exact isR_rf _) ?_
  refine r_callVs C v_L_173 Mm dL_law_1726 (by assumption) (ci := 10) (by decide) rfl rfl (As := []) rfl rfl rfl (by omega) (Nat.le_of_ble_eq_true rfl) (by omega) (by omega) ?_
  refine r_ic_eq (tgt := 1734) C dL_law_1729 (by decide) (fun _ => ?_) (fun c => absurd rfl c)
  exact K
theorem law_loop {X : Ctx} (C : Cx X yL_law cL_law 7 (some .boolean) [] 20 601024 7293034) {A : Nat → Nat} {H m o : Nat} (eA : A 0 = H) (hLe : gL (gOf X) ≤ 3584) (END : ∀ k n LS h, k ≤ 601024 → n ≤ 7293034 → wr X k n 1741 LS [.int 1] h) :
    ∀ (r i k n b : Nat) (h : Hp) (S : MM) (v5 v6 : Value), gL (gOf X) < i + 7 * r + 7 → i ≤ 3584 → k + 30 * r ≤ 601024 → n + 1700 * r ≤ 7293034 → b + r < 2 ^ 31 → CI A m h S b → hK h o = 102 → 0 < hL h o → wr X k n 23 [.ref 0, .ref H, .ref m, .ref o, .int (nI i), v5, v6] [] h := by
  intro r
  induction r with
  | zero =>
    intro i k n b h S v5 v6 q1 q2 q3 q4 q5 HC ho hl
    refine r_iload (i := 4) C dL_law_23 rfl ?_
    refine r_aload_n (i := 0) C dL_law_25 rfl rfl (by first | rfl | exact isR_rf _) ?_
    refine r_slen C dL_law_26 ?_
    refine r_bipush (v := 7) C dL_law_27 (by decide) ?_
    refine r_isub C dL_law_29 ?_
    refine r_ic_gt (tgt := 1740) C dL_law_30 (by decide) (fun _ => ?_) (fun c => absurd ((sub7 (by omega) (by omega)).mpr (by omega)) c)
    refine r_iconst (v := 1) C dL_law_1740 (by decide) ?_
    exact END _ _ _ _ (by omega) (by omega)
  | succ r ih =>
    intro i k n b h S v5 v6 q1 q2 q3 q4 q5 HC ho hl
    refine r_iload (i := 4) C dL_law_23 rfl ?_
    refine r_aload_n (i := 0) C dL_law_25 rfl rfl (by first | rfl | exact isR_rf _) ?_
    refine r_slen C dL_law_26 ?_
    refine r_bipush (v := 7) C dL_law_27 (by decide) ?_
    refine r_isub C dL_law_29 ?_
    refine r_ic_gt (tgt := 1740) C dL_law_30 (by decide) (fun _ => ?_) (fun c => ?_)
    · refine r_iconst (v := 1) C dL_law_1740 (by decide) ?_
      exact END _ _ _ _ (by omega) (by omega)
    have hi : i + 7 ≤ gL (gOf X) := by
      have : ¬ gL (gOf X) < i + 7 := fun z => c ((sub7 (by omega) (by omega)).mpr z)
      omega
    have hk9 : hK h H = 9 := by rw [← eA]; exact (CI_g HC).2
    have NXT : ∀ (k' n' b' : Nat) (h' : Hp) (S' : MM) (v5 v6 : Value), k' + 30 * r ≤ 601024 → n' + 1700 * r ≤ 7293034 → b' + r < 2 ^ 31 → CI A m h' S' b' → hK h' o = 102 → 0 < hL h' o → wr X k' n' 1734 [.ref 0, .ref H, .ref m, .ref o, .int (nI i), v5, v6] [] h' := by
      intro k' n' b' h' S' v5 v6 z3 z4 z5 z6 z7 z8
      refine r_iinc (i := 4) (v := nI (i + 7)) C dL_law_1734 rfl (nI_plus i 7 (Int32.ofInt 7) rfl) ?_
      refine r_goto (tgt := 23) C dL_law_1737 (by decide) ?_
      exact ih (i + 7) k' n' b' h' S' v5 v6 (by omega) (by omega) z3 z4 z5 z6 z7 z8
    have a1 : ∀ c, c ≤ 1700 → n + c ≤ 7293034 := fun c hc => by omega
    have a2 : ∀ c, c ≤ 1700 → n + c + 1700 * r ≤ 7293034 := fun c hc => by omega
    have b1 : ∀ c, c ≤ 30 → k + c ≤ 601024 := fun c hc => by omega
    have b2 : ∀ c, c ≤ 30 → k + c + 30 * r ≤ 601024 := fun c hc => by omega
    refine r_aload_n (i := 0) C dL_law_33 rfl rfl (by first | rfl | exact isR_rf _) ?_
    refine r_iload (i := 4) C dL_law_34 rfl ?_
    refine r_sald (j := i) C dL_law_36 rfl (by omega) ?_
    refine r_bipush (v := 31) C dL_law_37 (by decide) ?_
    refine r_iand C dL_law_39 ?_
    obtain ⟨j, hj, ej⟩ := and31 (gX (gOf X) i)
    rw [ej]
    rcases (show j = 0 ∨ j = 1 ∨ j = 2 ∨ j = 3 ∨ j = 4 ∨ j = 5 ∨ j = 6 ∨ j = 7 ∨ j = 8 ∨ j = 9 ∨ j = 10 ∨ j = 11 ∨ j = 12 ∨ j = 13 ∨ j = 14 ∨ j = 15 ∨ j = 16 ∨ j = 17 ∨ j = 18 ∨ j = 19 ∨ j = 20 ∨ j = 21 ∨ j = 22 ∨ 23 ≤ j by omega) with z | z | z | z | z | z | z | z | z | z | z | z | z | z | z | z | z | z | z | z | z | z | z | z
    · subst z
      refine r_tsw (off := 108) (tgt := 148) C dL_law_40 (by decide) (by decide) (by decide +kernel) (by decide) ?_
      obtain ⟨kk, v, h1, h2, S', Mw, Mm, Mt, F1, F2, F3, F4, F5, F6⟩ := sx_add (lOf X) (gOf X) HC (by omega) ho hl (gX (gOf X) (i + 1)) (gX (gOf X) (i + 2)) (gX (gOf X) (i + 3))
      rw [eA] at Mw
      exact lc_add C (by omega) Mw F5 Mm F6 Mt F3 F4 F2 (b1 30 (Nat.le_of_ble_eq_true rfl)) (a1 600 (Nat.le_of_ble_eq_true rfl)) (NXT (k + 30) (n + 600) _ h2 S' _ _ (b2 30 (Nat.le_of_ble_eq_true rfl)) (a2 600 (Nat.le_of_ble_eq_true rfl)) (by omega) F1 F3 F4)
    · subst z
      refine r_tsw (off := 188) (tgt := 228) C dL_law_40 (by decide) (by decide) (by decide +kernel) (by decide) ?_
      obtain ⟨kk, v, h1, h2, S', Mw, Mm, Mt, F1, F2, F3, F4, F5, F6⟩ := sx_remove (lOf X) (gOf X) HC ho hl (gX (gOf X) (i + 1))
      rw [eA] at Mw
      exact lc_remove C (by omega) Mw F5 Mm F6 Mt F3 F4 F2 (b1 30 (Nat.le_of_ble_eq_true rfl)) (a1 1700 (Nat.le_of_ble_eq_true rfl)) (NXT (k + 30) (n + 1700) _ h2 S' _ _ (b2 30 (Nat.le_of_ble_eq_true rfl)) (a2 1700 (Nat.le_of_ble_eq_true rfl)) (by omega) F1 F3 F4)
    · subst z
      refine r_tsw (off := 244) (tgt := 284) C dL_law_40 (by decide) (by decide) (by decide +kernel) (by decide) ?_
      obtain ⟨kk, v, h1, h2, S', Mw, Mm, Mt, F1, F2, F3, F4, F5, F6⟩ := sx_dress (lOf X) (gOf X) HC ho hl (gX (gOf X) (i + 1)) (gX (gOf X) (i + 2))
      rw [eA] at Mw
      exact lc_dress C (by omega) Mw F5 Mm F6 Mt F3 F4 F2 (b1 8 (Nat.le_of_ble_eq_true rfl)) (a1 200 (Nat.le_of_ble_eq_true rfl)) (NXT (k + 8) (n + 200) _ h2 S' _ _ (b2 8 (Nat.le_of_ble_eq_true rfl)) (a2 200 (Nat.le_of_ble_eq_true rfl)) (by omega) F1 F3 F4)
    · subst z
      refine r_tsw (off := 312) (tgt := 352) C dL_law_40 (by decide) (by decide) (by decide +kernel) (by decide) ?_
      obtain ⟨kk, v, h1, h2, S', Mw, Mm, Mt, F1, F2, F3, F4, F5, F6⟩ := sx_text (lOf X) (gOf X) HC ho hl (gX (gOf X) (i + 1)) (gX (gOf X) (i + 2))
      rw [eA] at Mw
      exact lc_text C (by omega) Mw F5 Mm F6 Mt F3 F4 F2 (b1 8 (Nat.le_of_ble_eq_true rfl)) (a1 200 (Nat.le_of_ble_eq_true rfl)) (NXT (k + 8) (n + 200) _ h2 S' _ _ (b2 8 (Nat.le_of_ble_eq_true rfl)) (a2 200 (Nat.le_of_ble_eq_true rfl)) (by omega) F1 F3 F4)
    · subst z
      refine r_tsw (off := 380) (tgt := 420) C dL_law_40 (by decide) (by decide) (by decide +kernel) (by decide) ?_
      obtain ⟨kk, v, h1, h2, S', Mw, Mm, Mt, F1, F2, F3, F4, F5, F6⟩ := sx_contain (lOf X) (gOf X) HC ho hl (gX (gOf X) (i + 1)) (if (gX (gOf X) (i + 2)) = 0 then 0 else 1) (bz01 _)
      rw [eA] at Mw
      exact lc_contain C (by omega) Mw F5 Mm F6 Mt F3 F4 F2 (b1 8 (Nat.le_of_ble_eq_true rfl)) (a1 200 (Nat.le_of_ble_eq_true rfl)) (NXT (k + 8) (n + 200) _ h2 S' _ _ (b2 8 (Nat.le_of_ble_eq_true rfl)) (a2 200 (Nat.le_of_ble_eq_true rfl)) (by omega) F1 F3 F4)
    · subst z
      refine r_tsw (off := 471) (tgt := 511) C dL_law_40 (by decide) (by decide) (by decide +kernel) (by decide) ?_
      obtain ⟨kk, v, h1, h2, S', Mw, Mm, Mt, F1, F2, F3, F4, F5, F6⟩ := sx_window (lOf X) (gOf X) HC ho hl (gX (gOf X) (i + 1))
      rw [eA] at Mw
      exact lc_window C (by omega) Mw F5 Mm F6 Mt F3 F4 F2 (b1 8 (Nat.le_of_ble_eq_true rfl)) (a1 200 (Nat.le_of_ble_eq_true rfl)) (NXT (k + 8) (n + 200) _ h2 S' _ _ (b2 8 (Nat.le_of_ble_eq_true rfl)) (a2 200 (Nat.le_of_ble_eq_true rfl)) (by omega) F1 F3 F4)
    · subst z
      refine r_tsw (off := 527) (tgt := 567) C dL_law_40 (by decide) (by decide) (by decide +kernel) (by decide) ?_
      obtain ⟨kk, v, h1, h2, S', Mw, Mm, Mt, F1, F2, F3, F4, F5, F6⟩ := sx_rule (lOf X) (gOf X) HC ho hl (gX (gOf X) (i + 1)) (gX (gOf X) (i + 2)) (gX (gOf X) (i + 3)) (gX (gOf X) (i + 4)) (gX (gOf X) (i + 5)) (if (gX (gOf X) (i + 6)) = 0 then 0 else 1) (bz01 _)
      rw [eA] at Mw
      exact lc_rule C (by omega) Mw F5 Mm F6 Mt F3 F4 F2 (b1 30 (Nat.le_of_ble_eq_true rfl)) (a1 600 (Nat.le_of_ble_eq_true rfl)) (NXT (k + 30) (n + 600) _ h2 S' _ _ (b2 30 (Nat.le_of_ble_eq_true rfl)) (a2 600 (Nat.le_of_ble_eq_true rfl)) (by omega) F1 F3 F4)
    · subst z
      refine r_tsw (off := 661) (tgt := 701) C dL_law_40 (by decide) (by decide) (by decide +kernel) (by decide) ?_
      obtain ⟨kk, v, h1, h2, S', Mw, Mm, Mt, F1, F2, F3, F4, F5, F6⟩ := sx_part (lOf X) (gOf X) HC ho hl (gX (gOf X) (i + 1)) (gX (gOf X) (i + 2)) (gX (gOf X) (i + 3)) (gX (gOf X) (i + 4)) (gX (gOf X) (i + 5))
      rw [eA] at Mw
      exact lc_part C (by omega) Mw F5 Mm F6 Mt F3 F4 F2 (b1 30 (Nat.le_of_ble_eq_true rfl)) (a1 600 (Nat.le_of_ble_eq_true rfl)) (NXT (k + 30) (n + 600) _ h2 S' _ _ (b2 30 (Nat.le_of_ble_eq_true rfl)) (a2 600 (Nat.le_of_ble_eq_true rfl)) (by omega) F1 F3 F4)
    · subst z
      refine r_tsw (off := 765) (tgt := 805) C dL_law_40 (by decide) (by decide) (by decide +kernel) (by decide) ?_
      obtain ⟨kk, v, h1, h2, S', Mw, Mm, Mt, F1, F2, F3, F4, F5, F6⟩ := sx_ask (lOf X) (gOf X) HC ho hl (gX (gOf X) (i + 1)) (gX (gOf X) (i + 2))
      rw [eA] at Mw
      exact lc_ask C (by omega) Mw F5 Mm F6 Mt F3 F4 F2 (b1 8 (Nat.le_of_ble_eq_true rfl)) (a1 200 (Nat.le_of_ble_eq_true rfl)) (NXT (k + 8) (n + 200) _ h2 S' _ _ (b2 8 (Nat.le_of_ble_eq_true rfl)) (a2 200 (Nat.le_of_ble_eq_true rfl)) (by omega) F1 F3 F4)
    · subst z
      refine r_tsw (off := 833) (tgt := 873) C dL_law_40 (by decide) (by decide) (by decide +kernel) (by decide) ?_
      obtain ⟨kk, v, h1, h2, S', Mw, Mm, Mt, F1, F2, F3, F4, F5, F6⟩ := sx_declare (lOf X) (gOf X) HC ho hl (gX (gOf X) (i + 1)) (gX (gOf X) (i + 2)) (gX (gOf X) (i + 3))
      rw [eA] at Mw
      exact lc_declare C (by omega) Mw F5 Mm F6 Mt F3 F4 F2 (b1 30 (Nat.le_of_ble_eq_true rfl)) (a1 600 (Nat.le_of_ble_eq_true rfl)) (NXT (k + 30) (n + 600) _ h2 S' _ _ (b2 30 (Nat.le_of_ble_eq_true rfl)) (a2 600 (Nat.le_of_ble_eq_true rfl)) (by omega) F1 F3 F4)
    · subst z
      refine r_tsw (off := 913) (tgt := 953) C dL_law_40 (by decide) (by decide) (by decide +kernel) (by decide) ?_
      obtain ⟨kk, v, h1, h2, S', Mw, Mm, Mt, F1, F2, F3, F4, F5, F6⟩ := sx_say (lOf X) (gOf X) HC ho hl (gX (gOf X) (i + 1)) (gX (gOf X) (i + 2)) (gX (gOf X) (i + 3))
      rw [eA] at Mw
      exact lc_say C (by omega) Mw F5 Mm F6 Mt F3 F4 F2 (b1 30 (Nat.le_of_ble_eq_true rfl)) (a1 600 (Nat.le_of_ble_eq_true rfl)) (NXT (k + 30) (n + 600) _ h2 S' _ _ (b2 30 (Nat.le_of_ble_eq_true rfl)) (a2 600 (Nat.le_of_ble_eq_true rfl)) (by omega) F1 F3 F4)
    · subst z
      refine r_tsw (off := 993) (tgt := 1033) C dL_law_40 (by decide) (by decide) (by decide +kernel) (by decide) ?_
      obtain ⟨kk, v, h1, h2, S', Mw, Mm, Mt, F1, F2, F3, F4, F5, F6⟩ := sx_refer (lOf X) (gOf X) HC ho hl (gX (gOf X) (i + 1)) (gX (gOf X) (i + 2)) (gX (gOf X) (i + 3)) (gX (gOf X) (i + 4))
      rw [eA] at Mw
      exact lc_refer C (by omega) Mw F5 Mm F6 Mt F3 F4 F2 (b1 30 (Nat.le_of_ble_eq_true rfl)) (a1 600 (Nat.le_of_ble_eq_true rfl)) (NXT (k + 30) (n + 600) _ h2 S' _ _ (b2 30 (Nat.le_of_ble_eq_true rfl)) (a2 600 (Nat.le_of_ble_eq_true rfl)) (by omega) F1 F3 F4)
    · subst z
      refine r_tsw (off := 1085) (tgt := 1125) C dL_law_40 (by decide) (by decide) (by decide +kernel) (by decide) ?_
      obtain ⟨kk, v, h1, h2, S', Mw, Mm, Mt, F1, F2, F3, F4, F5, F6⟩ := sx_empty (lOf X) (gOf X) HC ho hl (gX (gOf X) (i + 1))
      rw [eA] at Mw
      exact lc_empty C (by omega) Mw F5 Mm F6 Mt F3 F4 F2 (b1 30 (Nat.le_of_ble_eq_true rfl)) (a1 600 (Nat.le_of_ble_eq_true rfl)) (NXT (k + 30) (n + 600) _ h2 S' _ _ (b2 30 (Nat.le_of_ble_eq_true rfl)) (a2 600 (Nat.le_of_ble_eq_true rfl)) (by omega) F1 F3 F4)
    · subst z
      refine r_tsw (off := 1141) (tgt := 1181) C dL_law_40 (by decide) (by decide) (by decide +kernel) (by decide) ?_
      obtain ⟨kk, v, h1, h2, S', Mw, Mm, Mt, F1, F2, F3, F4, F5, F6⟩ := sx_fits (lOf X) (gOf X) HC ho hl (gX (gOf X) (i + 1)) (gX (gOf X) (i + 2))
      rw [eA] at Mw
      exact lc_fits C (by omega) Mw F5 Mm F6 Mt F3 F4 F2 (b1 8 (Nat.le_of_ble_eq_true rfl)) (a1 200 (Nat.le_of_ble_eq_true rfl)) (NXT (k + 8) (n + 200) _ h2 S' _ _ (b2 8 (Nat.le_of_ble_eq_true rfl)) (a2 200 (Nat.le_of_ble_eq_true rfl)) (by omega) F1 F3 F4)
    · subst z
      refine r_tsw (off := 1216) (tgt := 1256) C dL_law_40 (by decide) (by decide) (by decide +kernel) (by decide) ?_
      obtain ⟨kk, v, h1, h2, S', Mw, Mm, Mt, F1, F2, F3, F4, F5, F6⟩ := sx_weight (lOf X) (gOf X) HC ho hl (gX (gOf X) (i + 1))
      rw [eA] at Mw
      exact lc_weight C (by omega) Mw F5 Mm F6 Mt F3 F4 F2 (b1 8 (Nat.le_of_ble_eq_true rfl)) (a1 200 (Nat.le_of_ble_eq_true rfl)) (NXT (k + 8) (n + 200) _ h2 S' _ _ (b2 8 (Nat.le_of_ble_eq_true rfl)) (a2 200 (Nat.le_of_ble_eq_true rfl)) (by omega) F1 F3 F4)
    · subst z
      refine r_tsw (off := 1272) (tgt := 1312) C dL_law_40 (by decide) (by decide) (by decide +kernel) (by decide) ?_
      obtain ⟨kk, v, h1, h2, S', Mw, Mm, Mt, F1, F2, F3, F4, F5, F6⟩ := sx_value (lOf X) (gOf X) HC ho hl (gX (gOf X) (i + 1)) (gX (gOf X) (i + 2))
      rw [eA] at Mw
      exact lc_value C (by omega) Mw F5 Mm F6 Mt F3 F4 F2 (b1 8 (Nat.le_of_ble_eq_true rfl)) (a1 200 (Nat.le_of_ble_eq_true rfl)) (NXT (k + 8) (n + 200) _ h2 S' _ _ (b2 8 (Nat.le_of_ble_eq_true rfl)) (a2 200 (Nat.le_of_ble_eq_true rfl)) (by omega) F1 F3 F4)
    · subst z
      refine r_tsw (off := 1340) (tgt := 1380) C dL_law_40 (by decide) (by decide) (by decide +kernel) (by decide) ?_
      obtain ⟨kk, v, h1, h2, S', Mw, Mm, Mt, F1, F2, F3, F4, F5, F6⟩ := sx_valueAnew (lOf X) (gOf X) HC ho hl (gX (gOf X) (i + 1)) (gX (gOf X) (i + 2))
      rw [eA] at Mw
      exact lc_valueAnew C (by omega) Mw F5 Mm F6 Mt F3 F4 F2 (b1 8 (Nat.le_of_ble_eq_true rfl)) (a1 200 (Nat.le_of_ble_eq_true rfl)) (NXT (k + 8) (n + 200) _ h2 S' _ _ (b2 8 (Nat.le_of_ble_eq_true rfl)) (a2 200 (Nat.le_of_ble_eq_true rfl)) (by omega) F1 F3 F4)
    · subst z
      refine r_tsw (off := 1408) (tgt := 1448) C dL_law_40 (by decide) (by decide) (by decide +kernel) (by decide) ?_
      obtain ⟨kk, v, h1, h2, S', Mw, Mm, Mt, F1, F2, F3, F4, F5, F6⟩ := sx_from (lOf X) (gOf X) HC ho hl (gX (gOf X) (i + 1)) (gX (gOf X) (i + 2))
      rw [eA] at Mw
      exact lc_from C (by omega) Mw F5 Mm F6 Mt F3 F4 F2 (b1 8 (Nat.le_of_ble_eq_true rfl)) (a1 200 (Nat.le_of_ble_eq_true rfl)) (NXT (k + 8) (n + 200) _ h2 S' _ _ (b2 8 (Nat.le_of_ble_eq_true rfl)) (a2 200 (Nat.le_of_ble_eq_true rfl)) (by omega) F1 F3 F4)
    · subst z
      refine r_tsw (off := 1476) (tgt := 1516) C dL_law_40 (by decide) (by decide) (by decide +kernel) (by decide) ?_
      obtain ⟨kk, v, h1, h2, S', Mw, Mm, Mt, F1, F2, F3, F4, F5, F6⟩ := sx_box (lOf X) (gOf X) HC ho hl (gX (gOf X) (i + 1)) (gX (gOf X) (i + 2))
      rw [eA] at Mw
      exact lc_box C (by omega) Mw F5 Mm F6 Mt F3 F4 F2 (b1 8 (Nat.le_of_ble_eq_true rfl)) (a1 200 (Nat.le_of_ble_eq_true rfl)) (NXT (k + 8) (n + 200) _ h2 S' _ _ (b2 8 (Nat.le_of_ble_eq_true rfl)) (a2 200 (Nat.le_of_ble_eq_true rfl)) (by omega) F1 F3 F4)
    · subst z
      refine r_tsw (off := 1544) (tgt := 1584) C dL_law_40 (by decide) (by decide) (by decide +kernel) (by decide) ?_
      obtain ⟨kk, v, h1, h2, S', Mw, Mm, Mt, F1, F2, F3, F4, F5, F6⟩ := sx_boxAnew (lOf X) (gOf X) HC ho hl (gX (gOf X) (i + 1)) (gX (gOf X) (i + 2))
      rw [eA] at Mw
      exact lc_boxAnew C (by omega) Mw F5 Mm F6 Mt F3 F4 F2 (b1 8 (Nat.le_of_ble_eq_true rfl)) (a1 200 (Nat.le_of_ble_eq_true rfl)) (NXT (k + 8) (n + 200) _ h2 S' _ _ (b2 8 (Nat.le_of_ble_eq_true rfl)) (a2 200 (Nat.le_of_ble_eq_true rfl)) (by omega) F1 F3 F4)
    · subst z
      refine r_tsw (off := 1612) (tgt := 1652) C dL_law_40 (by decide) (by decide) (by decide +kernel) (by decide) ?_
      obtain ⟨kk, v, h1, h2, S', Mw, Mm, Mt, F1, F2, F3, F4, F5, F6⟩ := sx_lines (lOf X) (gOf X) HC ho hl (gX (gOf X) (i + 1))
      rw [eA] at Mw
      exact lc_lines C (by omega) Mw F5 Mm F6 Mt F3 F4 F2 (b1 8 (Nat.le_of_ble_eq_true rfl)) (a1 200 (Nat.le_of_ble_eq_true rfl)) (NXT (k + 8) (n + 200) _ h2 S' _ _ (b2 8 (Nat.le_of_ble_eq_true rfl)) (a2 200 (Nat.le_of_ble_eq_true rfl)) (by omega) F1 F3 F4)
    · subst z
      refine r_tsw (off := 1668) (tgt := 1708) C dL_law_40 (by decide) (by decide) (by decide +kernel) (by decide) ?_
      obtain ⟨v, h1, h2, S', Mw, Mm, F1, F3, F4, F5⟩ := sx_elements (lOf X) (gOf X) HC ho hl
      rw [eA] at Mw
      exact lc_elements C hk9 Mw F5 Mm (b1 8 (Nat.le_of_ble_eq_true rfl)) (a1 200 (Nat.le_of_ble_eq_true rfl)) (NXT (k + 8) (n + 200) _ h2 S' _ _ (b2 8 (Nat.le_of_ble_eq_true rfl)) (a2 200 (Nat.le_of_ble_eq_true rfl)) (by omega) F1 F3 F4)
    · subst z
      refine r_tsw (off := 1681) (tgt := 1721) C dL_law_40 (by decide) (by decide) (by decide +kernel) (by decide) ?_
      obtain ⟨v, h1, h2, S', Mw, Mm, F1, F3, F4, F5⟩ := sx_reached (lOf X) (gOf X) HC ho hl
      rw [eA] at Mw
      exact lc_reached C hk9 Mw F5 Mm (b1 8 (Nat.le_of_ble_eq_true rfl)) (a1 200 (Nat.le_of_ble_eq_true rfl)) (NXT (k + 8) (n + 200) _ h2 S' _ _ (b2 8 (Nat.le_of_ble_eq_true rfl)) (a2 200 (Nat.le_of_ble_eq_true rfl)) (by omega) F1 F3 F4)
    · refine r_tswo (tgt := 1734) C dL_law_40 (Or.inr (by rw [nI_toInt (by omega)]; omega)) (by decide) ?_
      exact NXT _ _ _ _ _ _ _ (by omega) (by omega) (by omega) HC ho hl
