/-! ===== the law from its first row (by genlaw4.py) ===== -/
theorem nw_SM {b : Hp} {k n x : Nat} (h : x < hN b) : SM b (nw b k n) x := ⟨by rw [hK_nw, va_up_ne _ _ (Nat.ne_of_lt h)], (show va_up (hL b) (hN b) n x = hL b x from va_up_ne _ _ (Nat.ne_of_lt h)), fun f => by rw [hI_nw], fun f => by rw [hR_nw], by rw [hA_nw], by rw [hQ_nw], by rw [hW_nw]⟩
def nw5 (b : Hp) : Hp := nw (nw (nw (nw (nw b 100 10) 100 10) 100 10) 100 6) 100 60
theorem nw5_SM {b : Hp} {x : Nat} (h : x < hN b) : SM b (nw5 b) x := by
  have n1 : hN (nw b 100 10) = hN b + 1 := hN_nw _ _ _
  have n2 : hN (nw (nw b 100 10) 100 10) = hN b + 2 := by rw [hN_nw, n1]
  have n3 : hN (nw (nw (nw b 100 10) 100 10) 100 10) = hN b + 3 := by rw [hN_nw, n2]
  have n4 : hN (nw (nw (nw (nw b 100 10) 100 10) 100 10) 100 6) = hN b + 4 := by rw [hN_nw, n3]
  exact SM_t (nw_SM h) (SM_t (nw_SM (by omega)) (SM_t (nw_SM (by omega)) (SM_t (nw_SM (by omega)) (nw_SM (by omega)))))
theorem nw5_at {b : Hp} (gb : Good b) : Good (nw5 b) ∧ (∀ i, i < 5 → hK (nw5 b) (hN b + i) = 100) ∧ (hL (nw5 b) (hN b) = 10 ∧ hL (nw5 b) (hN b + 1) = 10 ∧ hL (nw5 b) (hN b + 2) = 10 ∧ hL (nw5 b) (hN b + 3) = 6 ∧ hL (nw5 b) (hN b + 4) = 60) ∧ ∀ i, hA (nw5 b) (hN b + i) = fun _ => 0 := by
  have K : hK (nw5 b) = va_up (va_up (va_up (va_up (va_up (hK b) (hN b) 100) (hN b + 1) 100) (hN b + 2) 100) (hN b + 3) 100) (hN b + 4) 100 := rfl
  have L : hL (nw5 b) = va_up (va_up (va_up (va_up (va_up (hL b) (hN b) 10) (hN b + 1) 10) (hN b + 2) 10) (hN b + 3) 6) (hN b + 4) 60 := rfl
  have A : hA (nw5 b) = hA b := rfl
  refine ⟨gd_nw (gd_nw (gd_nw (gd_nw (gd_nw gb (by decide) (by decide)) (by decide) (by decide)) (by decide) (by decide)) (by decide) (by decide)) (by decide) (by decide), fun i hi => ?_, ⟨?_, ?_, ?_, ?_, ?_⟩, fun i => ?_⟩
  · rw [K]
    have : i = 0 ∨ i = 1 ∨ i = 2 ∨ i = 3 ∨ i = 4 := by omega
    rcases this with z | z | z | z | z <;> subst z
    · rw [va_up_ne _ _ (by omega), va_up_ne _ _ (by omega), va_up_ne _ _ (by omega), va_up_ne _ _ (by omega)]
      exact va_up_self _ _ _
    · rw [va_up_ne _ _ (by omega), va_up_ne _ _ (by omega), va_up_ne _ _ (by omega), va_up_self]
    · rw [va_up_ne _ _ (by omega), va_up_ne _ _ (by omega), va_up_self]
    · rw [va_up_ne _ _ (by omega), va_up_self]
    · rw [va_up_self]
  · rw [L, va_up_ne _ _ (by omega), va_up_ne _ _ (by omega), va_up_ne _ _ (by omega), va_up_ne _ _ (by omega), va_up_self]
  · rw [L, va_up_ne _ _ (by omega), va_up_ne _ _ (by omega), va_up_ne _ _ (by omega), va_up_self]
  · rw [L, va_up_ne _ _ (by omega), va_up_ne _ _ (by omega), va_up_self]
  · rw [L, va_up_ne _ _ (by omega), va_up_self]
  · rw [L, va_up_self]
  · rw [A]
    exact funext fun j => ((gb.2.2.1 (hN b + i) (by omega)).2.2 j).1
theorem new2 (l : Launch) (G : Gl) {b : Hp} (gb : Good b) : ∃ b1 b2 : Hp, MRw l G yX11_init (.code yX11_init cX11_init 1 none) 12 30 600 [.ref (hN b)] (nw b 9 0) (.inl (none, b1)) ∧ MRw l G yX11_init (.code yX11_init cX11_init 1 none) 12 30 600 [.ref (hN b1)] (nw b1 9 0) (.inl (none, b2)) ∧ WO G (nw5 b2) (hN b) (hN b1) (hN b2) (1, 0, 100, z0, z0, z0, z0, z0) T00 (z0, z0, z0, z0, z0) := by
  obtain ⟨b1, P, S1, M1, g1, W1, F1⟩ := hs_new l G gb
  obtain ⟨b2, Q, S2, M2, g2, W2, F2⟩ := hs_new l G F1.1
  have W1' : HS b2 (hN b) P S1 1 1 0 := hs_fr W1 F2.2.1 (fun x hx => F2.2.2.2.2 x (HS_lt W1 hx).2 (fun z => z))
  obtain ⟨a1, a2, a3, a4⟩ := nw5_at F2.1
  have t : ∀ {S : MM}, TG mmT S → TG (CTT G T00) S := fun {S} g => by
    have h := ct_0 (G := G) g
    show TG (CT G 1 0 100 z0 z0 z0 z0 (D0 z0) (D1 z0) (D2 z0)) S
    have e := D_0
    rw [show D0 z0 = z0 from e.1, show D1 z0 = z0 from e.2.1, show D2 z0 = z0 from e.2.2]
    exact h
  have N5 : hN b2 ≤ hN (nw5 b2) := by
    show hN b2 ≤ hN b2 + 1 + 1 + 1 + 1 + 1
    omega
  refine ⟨b1, b2, M1, M2, P, Q, ⟨S1, hs_fr W1' N5 (fun x hx => nw5_SM (HS_lt W1' hx).2), t g1⟩, ⟨S2, hs_fr W2 N5 (fun x hx => nw5_SM (HS_lt W2 hx).2), t g2⟩, a1, fun i hi => ⟨a2 i hi, fun h => ?_, fun h => ?_⟩, a3, ⟨a4 0, a4 1, a4 2, a4 3, a4 4⟩, fun x hx hx2 => ?_⟩
  · have := (HS_lt W1' h).2
    omega
  · have := (HS_lt W2 h).2
    omega
  · rcases F2.2.2.2.1 x hx2 with z | z
    · exact z
    · exact absurd (HS_lt W1 hx).2 (Nat.not_lt.mpr z)
theorem law_top {X : Ctx} (C : Cx X yL_law cL_law 20 (Option.some Jvm.ClassFile.FieldType.boolean) [] 20 660499 7120272) (END : ∀ (k n : Nat) (LS : List Value) (h : Hp), k ≤ 660499 → n ≤ 7120272 → wr X k n 1355 LS [.int 1] h) {h0 : Hp} (hg : Good h0) (v1 v2 v3 v4 v5 v6 v7 v8 v9 v10 v11 v12 v13 v14 v15 v16 v17 v18 v19 : Value) : wr X 0 0 0 [.ref 0, v1, v2, v3, v4, v5, v6, v7, v8, v9, v10, v11, v12, v13, v14, v15, v16, v17, v18, v19] [] h0 := by
  obtain ⟨b1, b2, M1, M2, W⟩ := new2 (lOf X) (gOf X) hg
  refine r_new C n_L_9 dL_law_0 (Nat.le_of_ble_eq_true rfl) (Nat.le_of_ble_eq_true rfl) ?_
  refine r_dup C (by first | rfl | exact isR_cat (isR_rf _)) dL_law_3 ?_
  refine r_callI C i_L_93 M1 dL_law_4 (As := []) rfl rfl rfl (Nat.le_of_ble_eq_true rfl) (Nat.le_of_ble_eq_true rfl) (Nat.le_of_ble_eq_true rfl) (Nat.le_of_ble_eq_true rfl) ?_
  refine r_astore_n (i := 1) C dL_law_7 rfl (Nat.le_of_ble_eq_true rfl) (by first | rfl | exact isR_rf _) ?_
  refine r_new C n_L_9 dL_law_8 (Nat.le_of_ble_eq_true rfl) (Nat.le_of_ble_eq_true rfl) ?_
  refine r_dup C (by first | rfl | exact isR_cat (isR_rf _)) dL_law_11 ?_
  refine r_callI C i_L_93 M2 dL_law_12 (As := []) rfl rfl rfl (Nat.le_of_ble_eq_true rfl) (Nat.le_of_ble_eq_true rfl) (Nat.le_of_ble_eq_true rfl) (Nat.le_of_ble_eq_true rfl) ?_
  refine r_astore_n (i := 2) C dL_law_15 rfl (Nat.le_of_ble_eq_true rfl) (by first | rfl | exact isR_rf _) ?_
  refine r_bipush (v := nI 10) C dL_law_16 (by decide) ?_
  refine r_newa_int (j := 10) C dL_law_18 rfl (by decide) w_arI (Nat.le_of_ble_eq_true rfl) (Nat.le_of_ble_eq_true rfl) ?_
  refine r_astore_n (i := 3) C dL_law_20 rfl (Nat.le_of_ble_eq_true rfl) (by first | rfl | exact isR_rf _) ?_
  refine r_bipush (v := nI 10) C dL_law_21 (by decide) ?_
  refine r_newa_int (j := 10) C dL_law_23 rfl (by decide) w_arI (Nat.le_of_ble_eq_true rfl) (Nat.le_of_ble_eq_true rfl) ?_
  refine r_astore (i := 4) C dL_law_25 (Nat.le_of_ble_eq_true rfl) (by first | rfl | exact isR_rf _) ?_
  refine r_bipush (v := nI 10) C dL_law_27 (by decide) ?_
  refine r_newa_int (j := 10) C dL_law_29 rfl (by decide) w_arI (Nat.le_of_ble_eq_true rfl) (Nat.le_of_ble_eq_true rfl) ?_
  refine r_astore (i := 5) C dL_law_31 (Nat.le_of_ble_eq_true rfl) (by first | rfl | exact isR_rf _) ?_
  refine r_bipush (v := nI 6) C dL_law_33 (by decide) ?_
  refine r_newa_int (j := 6) C dL_law_35 rfl (by decide) w_arI (Nat.le_of_ble_eq_true rfl) (Nat.le_of_ble_eq_true rfl) ?_
  refine r_astore (i := 6) C dL_law_37 (Nat.le_of_ble_eq_true rfl) (by first | rfl | exact isR_rf _) ?_
  refine r_bipush (v := nI 60) C dL_law_39 (by decide) ?_
  refine r_newa_int (j := 60) C dL_law_41 rfl (by decide) w_arI (Nat.le_of_ble_eq_true rfl) (Nat.le_of_ble_eq_true rfl) ?_
  refine r_astore (i := 7) C dL_law_43 (Nat.le_of_ble_eq_true rfl) (by first | rfl | exact isR_rf _) ?_
  refine r_bipush (v := 100) C dL_law_45 (by decide) ?_
  refine r_istore (i := 8) C dL_law_47 (Nat.le_of_ble_eq_true rfl) ?_
  refine r_iconst (v := 1) C dL_law_49 (by decide) ?_
  refine r_istore (i := 9) C dL_law_50 (Nat.le_of_ble_eq_true rfl) ?_
  refine r_iconst (v := nI 1) C dL_law_52 (by decide) ?_
  refine r_istore (i := 10) C dL_law_53 (Nat.le_of_ble_eq_true rfl) ?_
  refine lawA C (Ho := hN h0) (Hq := hN b1) (a := hN b2) (fun k n b fd v11 hk hn hF W => ?_) 9 1 _ _ (nw5 b2) z0 _ (by decide) (by decide) (by decide) (by decide) ⟨fun _ => ⟨0, by decide, rfl⟩, fun _ _ => rfl⟩ W
  refine r_iconst (v := nI 0) C dL_law_133 (by decide) ?_
  refine r_istore (i := 10) C dL_law_134 (Nat.le_of_ble_eq_true rfl) ?_
  refine lawB C (fun k n b fd fa v11 hk hn hF h1 h2 W => ?_) 6 0 _ _ _ _ z0 _ (by decide) (by omega) (by rw [show cS 600 6 = 3600 from rfl]; omega) hF (fun i hi => absurd hi (Nat.not_lt_zero i)) (fun _ _ => rfl) W
  have hR : RG 100 fd z0 z0 fa z0 := ⟨⟨100, by decide, rfl⟩, hF.1, hF.2, fun _ => Or.inl rfl, fun _ _ => rfl, fun _ => Or.inl rfl, fun _ _ => rfl, h1, h2, fun _ => Or.inl rfl, fun r _ => by
    have : ca z0 r = 0 := cn_0 10 (fun e _ => rfl)
    omega⟩
  refine r_iconst (v := nI 0) C dL_law_254 (by decide) ?_
  refine r_istore (i := 10) C dL_law_255 (Nat.le_of_ble_eq_true rfl) ?_
  refine lawC C (fun k n b w fd fw fh fa ft u11 u12 u13 u14 u15 u16 u17 u18 u19 hk hn hR W => ?_) 48 0 _ _ _ _ _ _ _ _ _ _ _ _ _ _ _ _ _ _ (by decide) (by omega) (by rw [show cS 600 48 = 28800 from rfl]; omega) hR W
  refine r_iconst (v := nI 0) C dL_law_757 (by decide) ?_
  refine r_istore (i := 10) C dL_law_758 (Nat.le_of_ble_eq_true rfl) ?_
  have W2 : WO (gOf X) b (hN h0) (hN b1) (hN b2) (10, 6, w, fd, fw, fh, fa, ft) (1, 0, 100, z0, z0, z0, aqr fa 0, gR ft 0 10) (fd, fw, fh, fa, ft) := by
    rw [aqr_0, gR_0]
    exact W
  refine lawD C hR (fun k n b u11 u12 u13 u14 u15 u16 u17 u18 u19 hk hn W => ?_) 6 0 _ _ _ _ _ _ _ _ _ _ _ _ (by decide) (by rw [show cS 340 6 = 2040 from rfl]; omega) (by rw [show cS 6900 6 = 41400 from rfl]; omega) W2
  refine lawE C hR (fun k n b u11 u12 u13 u14 u15 u16 u17 u18 u19 hk hn W => ?_) hk hn W
  rw [wor_0, wor_0] at W
  refine r_iconst (v := nI 0) C dL_law_1151 (by decide) ?_
  refine r_istore (i := 10) C dL_law_1152 (Nat.le_of_ble_eq_true rfl) ?_
  exact lawH C (wo_al (R := 6) W gR_6) END 10 0 _ _ _ _ _ _ _ _ _ _ _ (by decide) (by rw [show cS 528 10 = 5280 from rfl]; omega) (by rw [show cS 13200 10 = 132000 from rfl]; omega)
