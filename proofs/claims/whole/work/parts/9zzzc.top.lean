/-! ===== the law: its start ===== -/
theorem OLD_pm {h0 h : Hp} {m : Nat} {S : MM} (hm : hN h0 ≤ m) (H : OLD h0 h) : OLD h0 (pm m h S) := by
  obtain ⟨a1, a2, a3, a4, a5, a6⟩ := H
  refine ⟨KP_t a1 pm_K, fun f x hx => ?_, a3, a4, fun x hx => ?_, a6⟩
  · exact (if_neg (fun z => by omega) : (if x = m ∧ 640 ≤ f ∧ msc (f - 640) = true then S (f - 640) 0 else hI h f x) = hI h f x).trans (a2 f x hx)
  · rw [pm_Az (by omega)]
    exact a5 x hx
theorem OLD_aiH {h0 h : Hp} {m : Nat} (hm : hN h0 ≤ m) (H : OLD h0 h) : ∀ j, OLD h0 (aiH m h j)
  | 0 => H
  | j + 1 => OLD_sR (f := 640 + aFk j) (a := m) (v := some (hN h + j)) hm (OLD_nw2 (OLD_aiH hm H j))
theorem MMH_w {m : Nat} {h : Hp} {S : MM} (H : MW m h) : MMH m (pm m h S) S := by
  refine ⟨H, fun k hk => ?_, fun k hk => ?_⟩
  · show (if m = m ∧ 640 ≤ 640 + k ∧ msc (640 + k - 640) = true then S (640 + k - 640) 0 else _) = _
    rw [Nat.add_sub_cancel_left, if_pos ⟨rfl, by omega, hk⟩]
  · have := mad_r hk
    funext j
    show (if m < m + mad k ∧ m + mad k ≤ m + 33 then S (mof (m + mad k - m)) j else _) = _
    rw [if_pos ⟨by omega, by omega⟩, Nat.add_sub_cancel_left]
    have e : mof (mad k) = k := by
      have h40 := marr_lt hk
      have : ∀ k, k < 40 → marr k = true → mof (mad k) = k := by decide
      exact this k h40 hk
    rw [e]
theorem CI_st {A D : Nat → Nat} {m e : Nat} {ha hc : Hp} {S Y : MM} (gc : Good hc) (F : OLD ha hc) (T : TLD A D m ha mmT 1 0 (fun _ => e) [] [] (fun _ => 0) (fun _ _ => 0) (fun _ => 0) (fun _ => 0) (fun _ => 0)) (lr : hI ha fH_lastReached (A 0) = 0) (KOs : ∀ S', (∀ i, i < 1 → GV S' Y i ∧ GE S' Y i) → KO ha S' 1 some (fun _ => e)) (M : MMH m hc S) (hY : LE mmT Y 1 0) (hV : VR Y 1) (gg : ∀ i, i < 1 → GV S Y i ∧ GE S Y i) (kp : ∀ k, k ≤ 22 ∨ 29 ≤ k ∧ k ≤ 33 → S k = mmT k) : CI A m hc S 1 := by
  have g : TG mmT S := fun k _ h2 => kp k (Or.inl h2)
  refine ⟨D, 1, 0, fun _ => e, [], [], fun _ => 0, fun _ _ => 0, fun _ => 0, fun _ => 0, fun _ => 0, TLD_S g (TLD_old gc F T), TNR_S g mmT_TNR, KO_old T.1 F (fun i hi => T.2.2.2.1.2.1 _ (Ee_m (is := []) hi)) (KOs S gg), ?_, M, ⟨1, Nat.le_refl 1, ?_, fun i hi => ⟨0, by decide, ?_⟩⟩, fun i _ => ?_, by decide, Y, LE_c g hY, hV, gg⟩
  · rw [F.2.1 _ _ (kind_in T.1 T.2.1.1.1 (by decide)).2, lr, kp 33 (Or.inr (by decide))]
    rfl
  · rw [kp 2 (Or.inl (by decide))]
    rfl
  · have : i = 0 := by omega
    rw [this, kp 4 (Or.inl (by decide))]
    rfl
  · rw [kp 20 (Or.inl (by decide))]
    show u2 (u2 (u2 (u2 (fun _ _ => 0) 1 0 100) 2 0 1) 3 0 1) 5 0 (-1) 20 i = 0
    rw [u2_row (by decide), u2_row (by decide), u2_row (by decide), u2_row (by decide)]
theorem law_top {X : Ctx} (C : Cx X yL_law cL_law 7 (some .boolean) [] 20 601024 7293034) (hLe : gL (gOf X) ≤ 3584) (END : ∀ k n LS h, k ≤ 601024 → n ≤ 7293034 → wr X k n 1741 LS [.int 1] h) {h0 : Hp} (hg : Good h0) (v1 v2 v3 v4 v5 v6 : Value) : wr X 0 0 0 [.ref 0, v1, v2, v3, v4, v5, v6] [] h0 := by
  have gg : Good (nw h0 9 0) := gd_nw hg (by decide) (by decide)
  obtain ⟨ha, A, D, e, Y, eA, Mh, hY, hV, TL, lr, KOs, ST⟩ := c_house (lOf X) (gOf X) gg (H := hN h0) (by rw [hK_nw, va_up_self])
  obtain ⟨S, E9, gvs, keep⟩ := finds_s mmT_TNR.1 hY hV
  have gha := ST.1
  have gn : Good (nw ha 10 0) := gd_nw gha (by decide) (by decide)
  have Mm := c_modelInit (lOf X) (gOf X) (m := hN ha) (h := nw ha 10 0) (S := S) gn (by rw [hK_nw, va_up_self]) (hN_nw ha 10 0) (fun f => by rw [hI_nw]; exact ((gha.2.2.1 (hN ha) (Nat.le_refl _)).2.1 f).1) E9
  obtain ⟨h3, eh3⟩ : ∃ w, w = sI (sI (sI (nw ha 10 0) fM_window (hN ha) 100) fM_numbers (hN ha) 1) fM_many (hN ha) 1 := ⟨_, rfl⟩
  rw [← eh3] at Mm
  have k3 : hK h3 (hN ha) = 10 := by rw [eh3, hK_sI, hK_sI, hK_sI, hK_nw, va_up_self]
  have n3 : hN h3 = hN ha + 1 := by rw [eh3, hN_sI, hN_sI, hN_sI, hN_nw]
  have O3 : OLD ha h3 := by rw [eh3]; exact OLD_sI (Nat.le_refl _) (OLD_sI (Nat.le_refl _) (OLD_sI (Nat.le_refl _) OLD_nw))
  have MW3 := aiH_MW k3 n3
  have O33 := OLD_aiH (Nat.le_refl (hN ha)) O3 33
  obtain ⟨h4, eh4⟩ : ∃ w, w = aiH (hN ha) h3 33 := ⟨_, rfl⟩
  rw [← eh4] at Mm MW3 O33
  have O4 : OLD ha (pm (hN ha) h4 S) := OLD_pm (Nat.le_refl _) O33
  have M4 : MMH (hN ha) (pm (hN ha) h4 S) S := MMH_w MW3
  obtain ⟨hb, ehb⟩ : ∃ w, w = pm (hN ha) h4 S := ⟨_, rfl⟩
  rw [← ehb] at Mm O4 M4
  refine r_new C n_L_8 dL_law_0 (by first | exact Nat.le_refl _ | exact Nat.le_of_ble_eq_true rfl | omega) (by first | exact Nat.le_refl _ | exact Nat.le_of_ble_eq_true rfl | omega) ?_
  refine r_dup C (by first | rfl | exact isR_cat (isR_rf _)) dL_law_3 ?_
  refine r_callI C i_L_86 Mh dL_law_4 (As := []) rfl rfl rfl (by first | exact Nat.le_refl _ | exact Nat.le_of_ble_eq_true rfl | omega) (Nat.le_of_ble_eq_true rfl) (by first | exact Nat.le_refl _ | exact Nat.le_of_ble_eq_true rfl | omega) (by first | exact Nat.le_refl _ | exact Nat.le_of_ble_eq_true rfl | omega) ?_
  refine r_astore_n (i := 1) C dL_law_7 rfl (Nat.le_of_ble_eq_true rfl) (by first | rfl | exact isR_rf _) ?_
  refine r_new C n_L_87 dL_law_8 (by first | exact Nat.le_refl _ | exact Nat.le_of_ble_eq_true rfl | omega) (by first | exact Nat.le_refl _ | exact Nat.le_of_ble_eq_true rfl | omega) ?_
  refine r_dup C (by first | rfl | exact isR_cat (isR_rf _)) dL_law_11 ?_
  refine r_callI C i_L_89 Mm dL_law_12 (As := []) rfl rfl rfl (by first | exact Nat.le_refl _ | exact Nat.le_of_ble_eq_true rfl | omega) (Nat.le_of_ble_eq_true rfl) (by first | exact Nat.le_refl _ | exact Nat.le_of_ble_eq_true rfl | omega) (by first | exact Nat.le_refl _ | exact Nat.le_of_ble_eq_true rfl | omega) ?_
  refine r_astore_n (i := 2) C dL_law_15 rfl (Nat.le_of_ble_eq_true rfl) (by first | rfl | exact isR_rf _) ?_
  refine wr_good (fun gb => ?_)
  refine r_iconst (v := 1) C dL_law_16 (by decide) ?_
  refine r_newa_lon (j := 1) C dL_law_17 rfl (by decide) w_arL (Nat.le_of_ble_eq_true rfl) (Nat.le_of_ble_eq_true rfl) ?_
  refine r_astore_n (i := 3) C dL_law_19 rfl (Nat.le_of_ble_eq_true rfl) (by first | rfl | exact isR_rf _) ?_
  refine r_iconst (v := 0) C dL_law_20 (by decide) ?_
  refine r_istore (i := 4) C dL_law_21 (Nat.le_of_ble_eq_true rfl) ?_
  have gc : Good (nw hb 102 1) := gd_nw gb (by decide) (by decide)
  have CI0 : CI A (hN ha) (nw hb 102 1) S 1 := CI_st gc (OLD_nw2 O4) (TL _ (Nat.le_refl _)) (by rw [eA]; exact lr) KOs (MMH_old gb OLD_nw M4) hY hV gvs keep
  exact law_loop C eA hLe END 512 0 _ _ 1 _ S _ _ (by omega) (by decide) (Nat.le_of_ble_eq_true rfl) (Nat.le_of_ble_eq_true rfl) (by decide) CI0 (by rw [hK_nw, va_up_self]) (by rw [hL_nw, va_up_self]; decide)
