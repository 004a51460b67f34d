/-! ===== CascadeHouse.settle: its contract ===== -/
theorem KW_X {w : WZ} {h h' : Hp} {l d d' K P N : Nat} {kp kv ks : Nat → Nat} (hg : Good h) (F : XF w h h' l d d' K P N) (A : KW w h kp kv ks) : KW w h' kp kv ks := by
  obtain ⟨h1, h2, h3⟩ := A
  have a4 := F.2.2.2.2.1
  refine ⟨h1, fun e he => ?_, h3⟩
  obtain ⟨x1, y1, y2, y3, y4, y5, y6, y7⟩ := h2 e he
  exact ⟨by rw [a4 _ (by decide)]; exact x1, KP_k hg F.1 y1 (by decide), by rw [a4 _ (by decide)]; exact y2, by rw [a4 _ (by decide)]; exact y3, KP_k hg F.1 y4 (by decide), by rw [KP_l hg F.1 y4 (by decide)]; exact y5, KP_k hg F.1 y6 (by decide), by rw [KP_l hg F.1 y6 (by decide)]; exact y7⟩
theorem KW_cm {w : WZ} {h : Hp} {Z : MM} {kp kv ks : Nat → Nat} (A : KW w h kp kv ks) : KW w (cm w h Z) kp kv ks :=
  ⟨A.1, fun e he => ⟨(A.2.1 e he).1, LO_eq (h := h) rfl rfl rfl rfl (A.2.1 e he).2⟩, A.2.2⟩
theorem c_settle (l : Launch) (G : Gl) {w : WZ} {h : Hp} {Z Z' : MM} {c b K P N S L dS d H t R dR : Nat} {ss : List Nat} {pts cs : Nat → List Nat} {Ds : Nat → Nat} {U up : Nat → List Nat} {kp kv ks : Nat → Nat} {wt : Int32}
    (H0 : FW w h c b K P N S L dS d ss pts Ds U) (A0 : HW w h H t c R dR L d) (hKW : KW w h kp kv ks) (hup : ∀ e, e < wn w → U (wE w e) = (up e).map (wE w) ∧ ∀ q, q ∈ up e → q < wn w) (hcs : ∀ k, k < wn w → chn w (wl w 200 k) (cs k) ∧ ∀ x, x ∈ cs k → x < wn w) (hn31 : wn w < 2 ^ 31)
    (he : anZ w (valZ w h Ds ss pts U up) (hI h fH_windowWidth H) cs Z = some Z') :
    ∃ (h' : Hp) (d' j : Nat), MRw l G yX11_settle (.code yX11_settle cX11_settle 4 none) 11 j (60 * j) [.ref H, .int wt] (cm w h Z) (.inl (none, sI (tkA w kp (cm w h' Z') (wn w)) fH_lastReached H (cntS (cm w h' Z') w kp kv wt (wn w)))) ∧
      FW w h' c b K P N S L dS d' ss pts Ds U ∧ HW w h' H t c R dR L d' ∧ XF w h h' L d d' K P N ∧ j + Ph h' d' ≤ Ph h d := by
  obtain ⟨h', d', j, M, H1, A1, X1, c1⟩ := c_findAnew l G H0 A0 hup hcs hn31 he
  refine ⟨h', d', j, ?_, H1, A1, X1, c1⟩
  have hK1 : KW w (cm w h' Z') kp kv ks := KW_cm (KW_X H0.1 X1 hKW)
  have kH : hK (cm w h Z) H = 9 := A0.1
  have b1 : hK (cm w h' Z') H = 9 := A1.1
  have b2 : hR (cm w h' Z') fH_tree H = some t := A1.2.1
  have b3 : hK (cm w h' Z') t = 8 := A1.2.2.2.1
  have b4 : hR (cm w h' Z') fT_row t = some R := A1.2.2.2.2.1
  have b5 : AL (cm w h' Z') R dR ((List.range (wn w)).map (wE w)) := AL_cm A1.2.2.2.2.2.1
  have b6 : ∀ e, e < wn w → hK (cm w h' Z') (wE w e) = 3 ∧ hR (cm w h' Z') fE_fresh (wE w e) = some (wf w e) ∧ LO (cm w h' Z') (wf w e) (wv w e) (ws w e) := fun e q => H1.2.1.1 e q
  generalize cm w h' Z' = hb at M hK1 b1 b2 b3 b4 b5 b6 ⊢
  refine mr_of (by decide +kernel) (Nat.le_of_ble_eq_true rfl) (ct2 (by first | rfl | exact isR_cat (isR_rf _)) (by first | rfl | exact isR_cat (isR_rf _))) (fun X hG hl C E => ?_)
  subst hG hl
  refine r_aload_n (i := 0) C dX11_settle_0 rfl rfl (by first | rfl | exact isR_rf _) ?_
  refine r_callVn C v_X11_189 M dX11_settle_1 (by assumption) (ci := 9) (by decide) rfl rfl (As := []) rfl rfl rfl (by first | exact Nat.le_refl _ | exact Nat.le_of_ble_eq_true rfl | omega) (Nat.le_of_ble_eq_true rfl) (by first | exact Nat.le_refl _ | exact Nat.le_of_ble_eq_true rfl | omega) (by first | exact Nat.le_refl _ | exact Nat.le_of_ble_eq_true rfl | omega) ?_
  refine r_iload_n (i := 1) C dX11_settle_4 rfl rfl ?_
  refine r_istore_n (i := 2) C dX11_settle_5 rfl (Nat.le_of_ble_eq_true rfl) ?_
  refine r_iconst (v := 0) C dX11_settle_6 (by decide) ?_
  refine r_istore_n (i := 3) C dX11_settle_7 rfl (Nat.le_of_ble_eq_true rfl) ?_
  have h42 : ∀ v3 : Value, wr X j (60 * j) 42 [.ref H, .int wt, .int (cntS hb w kp kv wt (wn w)), v3] [] (tkA w kp hb (wn w)) := by
    intro v3
    have k9 : hK (tkA w kp hb (wn w)) H = 9 := by rw [(tkA_fr w kp hb (wn w)).2.1]; exact b1
    generalize tkA w kp hb (wn w) = h9 at E k9 ⊢
    generalize cntS hb w kp kv wt (wn w) = ct at E ⊢
    refine r_aload_n (i := 0) C dX11_settle_42 rfl rfl (by first | rfl | exact isR_rf _) ?_
    refine r_iload_n (i := 2) C dX11_settle_43 rfl rfl ?_
    refine r_putI C f_X11_40 dX11_settle_44 rfl rfl rfl (by assumption) ?_
    exact r_vret C E dX11_settle_47 rfl (Nat.le_refl _) (Nat.le_refl _)
  have := st_loop (wt := wt) hn31 b1 b2 b3 b4 b5 b6 hK1 C (k0 := j) (n0 := 60 * j) (by omega) (by omega) (.int wt) (wn w) 0 (by omega) h42
  refine wr_wide ?_ ?_ this
  · omega
  · omega
