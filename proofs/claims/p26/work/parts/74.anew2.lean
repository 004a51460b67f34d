/-! ===== CascadeHouse.findAnew: the loops ===== -/
theorem ob {α β : Type} {x : Option α} {f : α → Option β} {r : β} (h : x.bind f = some r) : ∃ v, x = some v ∧ f v = some r := by
  cases x with
  | none => cases h
  | some v => exact ⟨v, rfl, h⟩
theorem fa_l1 (l : Launch) (G : Gl) {w : WZ} {c b K P N S L dS H t R dR : Nat} {ss : List Nat} {pts cs : Nat → List Nat} {Ds : Nat → Nat} {U up : Nat → List Nat} {V : Nat → MM → MM} {W : Int32}
    (hup : ∀ e, e < wn w → U (wE w e) = (up e).map (wE w) ∧ ∀ q, q ∈ up e → q < wn w) (hcs : ∀ k, k < wn w → chn w (wl w 200 k) (cs k) ∧ ∀ x, x ∈ cs k → x < wn w) (hn31 : wn w < 2 ^ 31) :
    ∀ (m k : Nat), k + m = wn w → ∀ (h : Hp) (d : Nat) (Z Z' : MM), FW w h c b K P N S L dS d ss pts Ds U → HW w h H t c R dR L d → valZ w h Ds ss pts U up = V → hI h fH_windowWidth H = W → itF (an1 w V W cs) m k Z = some Z' →
    ∃ (h' : Hp) (d' j : Nat), FW w h' c b K P N S L dS d' ss pts Ds U ∧ HW w h' H t c R dR L d' ∧ XF w h h' L d d' K P N ∧ j + Ph h' d' ≤ Ph h d ∧
      ∀ (X : Ctx), gOf X = G → lOf X = l → ∀ {mc ms : Nat}, Cx X yX11_findAnew cX11_findAnew 5 none [] 10 mc ms → ∀ (k0 : Nat), k0 + j ≤ mc → 60 * (k0 + j) ≤ ms →
        (∀ v3 v4 : Value, wr X (k0 + j) (60 * (k0 + j)) 90 [.ref H, .int (nI (wn w)), .int (nI (wn w)), v3, v4] [] (cm w h' Z')) →
        ∀ v3 v4 : Value, wr X k0 (60 * k0) 10 [.ref H, .int (nI (wn w)), .int (nI k), v3, v4] [] (cm w h Z) := by
  intro m
  induction m with
  | zero =>
    intro k hk h d Z Z' H0 A0 hV hW he
    have hk' : k = wn w := by omega
    subst hk'
    cases he
    refine ⟨h, d, 0, H0, A0, XF_r w h L d K P N, by omega, fun X eG el mc ms C k0 hm1 hm2 K90 v3 v4 => ?_⟩
    refine r_iload_n (i := 2) C dX11_findAnew_10 rfl rfl ?_
    refine r_iload_n (i := 1) C dX11_findAnew_11 rfl rfl ?_
    refine rn_ic_ge C (wn w) (wn w) rfl rfl hn31 hn31 (tgt := 90) dX11_findAnew_12 (by decide) (fun _ => ?_) (fun q => absurd q (by omega))
    exact K90 _ _
  | succ m ih =>
    intro k hk h d Z Z' H0 A0 hV hW he
    have hkn : k < wn w := by omega
    obtain ⟨Zk, he1, he2⟩ := ob he
    unfold an1 at he1
    have hK2 : hK h K = 104 := H0.2.2.1.2.2.1
    have hdd := AL_d H0.2.2.2.2.1.2.1.choose_spec
    -- the root's own values, or none
    have hroot : ∃ (h1 : Hp) (d1 j1 : Nat) (Z1 : MM), FW w h1 c b K P N S L dS d1 ss pts Ds U ∧ XF w h h1 L d d1 K P N ∧ j1 + Ph h1 d1 ≤ Ph h d ∧ k_measureChildren w ((cs k).foldl (fun Z c => V c Z) Z1) k = some Zk ∧
        ∀ (X : Ctx), gOf X = G → lOf X = l → ∀ {mc ms : Nat}, Cx X yX11_findAnew cX11_findAnew 5 none [] 10 mc ms → ∀ (k0 : Nat), k0 + j1 ≤ mc → 60 * (k0 + j1) ≤ ms →
          (∀ v4 : Value, wr X (k0 + j1) (60 * (k0 + j1)) 50 [.ref H, .int (nI (wn w)), .int (nI k), .ref (wE w k), v4] [] (cm w h1 Z1)) →
          ∀ v4 : Value, wr X k0 (60 * k0) 24 [.ref H, .int (nI (wn w)), .int (nI k), .ref (wE w k), v4] [] (cm w h Z) := by
      cases hp : wl w 197 k with
      | some q =>
        rw [hp] at he1
        refine ⟨h, d, 0, Z, H0, XF_r w h L d K P N, by omega, he1, fun X eG el mc ms C k0 hm1 hm2 K50 v4 => ?_⟩
        refine r_aload_n (i := 3) C dX11_findAnew_24 rfl rfl (by first | rfl | exact isR_rf _) ?_
        refine rz_link C 197 f_X11_71 dX11_findAnew_25 rfl rfl (by decide) (by decide) H0.2.1 hkn ?_
        rw [hp]
        refine r_ifnonnull (o := some (wE w q)) (tgt := 50) C dX11_findAnew_28 (by decide) (fun _ _ => ?_) (fun q => nomatch q)
        exact K50 _
      | none =>
        rw [hp] at he1
        obtain ⟨Z1, hz1, hz2⟩ := ob he1
        obtain ⟨h1, d1, k1, M1, H1, X1, c1⟩ := c_findValuesZ l G (Z := Z) H0 hkn (hup k hkn).1 (hup k hkn).2
        rw [hV] at M1
        have A1 := HW_X H0.1 hK2 X1 A0
        have hW1 : hI h1 fH_windowWidth H = W := by rw [XF_I X1 (by decide) (by decide) (Or.inr (by decide))]; exact hW
        have M2 := zk_measureRoot l G H1.2.1 hkn hz1
        refine ⟨h1, d1, k1, Z1, H1, X1, c1, hz2, fun X eG el mc ms C k0 hm1 hm2 K50 v4 => ?_⟩
        subst eG el
        have kH : hK (cm w h Z) H = 9 := A0.1
        have kc : hK (cm w h Z) c = 1 := H0.2.2.1.1
        have kH1 : hK (cm w h1 (V k Z)) H = 9 := A1.1
        refine r_aload_n (i := 3) C dX11_findAnew_24 rfl rfl (by first | rfl | exact isR_rf _) ?_
        refine rz_link C 197 f_X11_71 dX11_findAnew_25 rfl rfl (by decide) (by decide) H0.2.1 hkn ?_
        rw [hp]
        refine r_ifnonnull (o := none) (tgt := 50) C dX11_findAnew_28 (by decide) (fun _ q => nomatch q) (fun _ => ?_)
        refine r_aload_n (i := 0) C dX11_findAnew_31 rfl rfl (by first | rfl | exact isR_rf _) ?_
        refine r_getR C f_X11_28 dX11_findAnew_32 rfl (by assumption) ?_
        rw [show hR (cm w h Z) fH_cascade H = some c from A0.2.2.1]
        refine r_aload_n (i := 3) C dX11_findAnew_35 rfl rfl (by first | rfl | exact isR_rf _) ?_
        refine r_callVn C v_X11_236 M1 dX11_findAnew_36 (by assumption) (ci := 1) (by decide) rfl rfl (As := [_]) rfl rfl rfl (by first | exact Nat.le_refl _ | exact Nat.le_of_ble_eq_true rfl | omega) (Nat.le_of_ble_eq_true rfl) (by first | exact Nat.le_refl _ | exact Nat.le_of_ble_eq_true rfl | omega) (by first | exact Nat.le_refl _ | exact Nat.le_of_ble_eq_true rfl | omega) ?_
        rw [← Nat.mul_add]
        refine r_aload_n (i := 3) C dX11_findAnew_39 rfl rfl (by first | rfl | exact isR_rf _) ?_
        refine rz_fresh C f_X11_192 dX11_findAnew_40 rfl rfl H1.2.1 hkn ?_
        refine r_aload_n (i := 0) C dX11_findAnew_43 rfl rfl (by first | rfl | exact isR_rf _) ?_
        refine r_getI C f_X11_32 dX11_findAnew_44 rfl (by assumption) ?_
        rw [cm_In (Or.inr (by decide)), hW1]
        refine r_callSn C s_X11_240 M2 dX11_findAnew_47 (As := [_, _]) rfl rfl rfl (by first | exact Nat.le_refl _ | exact Nat.le_of_ble_eq_true rfl | omega) (Nat.le_of_ble_eq_true rfl) (by first | exact Nat.le_refl _ | exact Nat.le_of_ble_eq_true rfl | omega) (by first | exact Nat.le_refl _ | exact Nat.le_of_ble_eq_true rfl | omega) ?_
        exact K50 _
    obtain ⟨h1, d1, j1, Z1, H1, X1, c1, hmz, W1⟩ := hroot
    have hV1 : valZ w h1 Ds ss pts U up = V := (valZ_XF H0.1 X1 hK2 hdd H0.2.2.2.2.2.2.1).trans hV
    have A1 := HW_X H0.1 hK2 X1 A0
    obtain ⟨h2, d2, j2, H2, X2, c2, W2⟩ := fa_ch l G (H := H) (t := t) (R := R) (dR := dR) hup (cs k) (wl w 200 k) (hcs k hkn).1 (hcs k hkn).2 h1 d1 Z1 H1 A1 hV1
    have hV2 : valZ w h2 Ds ss pts U up = V := (valZ_XF H1.1 X2 H1.2.2.1.2.2.1 (AL_d H1.2.2.2.2.1.2.1.choose_spec) H1.2.2.2.2.2.2.1).trans hV1
    have A2 := HW_X H1.1 H1.2.2.1.2.2.1 X2 A1
    have X12 := XF_t X1 X2
    have hW2 : hI h2 fH_windowWidth H = W := by rw [XF_I X12 (by decide) (by decide) (Or.inr (by decide))]; exact hW
    have M3 := zk_measureChildren l G H2.2.1 hkn hmz
    obtain ⟨h3, d3, j3, H3, A3, X3, c3, W3⟩ := ih (k + 1) (by omega) h2 d2 Zk Z' H2 A2 hV2 hW2 he2
    refine ⟨h3, d3, j1 + j2 + j3, H3, A3, XF_t X12 X3, by omega, fun X eG el mc ms C k0 hm1 hm2 K90 v3 v4 => ?_⟩
    subst eG el
    have kH : hK (cm w h Z) H = 9 := A0.1
    have kt : hK (cm w h Z) t = 8 := A0.2.2.2.1
    refine r_iload_n (i := 2) C dX11_findAnew_10 rfl rfl ?_
    refine r_iload_n (i := 1) C dX11_findAnew_11 rfl rfl ?_
    refine rn_ic_ge C k (wn w) rfl rfl (by omega) hn31 (tgt := 90) dX11_findAnew_12 (by decide) (fun q => absurd q (by omega)) (fun _ => ?_)
    refine r_aload_n (i := 0) C dX11_findAnew_15 rfl rfl (by first | rfl | exact isR_rf _) ?_
    refine r_getR C f_X11_10 dX11_findAnew_16 rfl (by assumption) ?_
    rw [show hR (cm w h Z) fH_tree H = some t from A0.2.1]
    refine r_iload_n (i := 2) C dX11_findAnew_19 rfl rfl ?_
    refine r_callVs C v_X11_229 (z_treeGet _ _ A0 H0.2.1 hkn Z) dX11_findAnew_20 (by assumption) (ci := 8) (by decide) rfl rfl (As := [_]) rfl rfl rfl (by first | exact Nat.le_refl _ | exact Nat.le_of_ble_eq_true rfl | omega) (Nat.le_of_ble_eq_true rfl) (by first | exact Nat.le_refl _ | exact Nat.le_of_ble_eq_true rfl | omega) (by first | exact Nat.le_refl _ | exact Nat.le_of_ble_eq_true rfl | omega) ?_
    refine r_astore_n (i := 3) C dX11_findAnew_23 rfl (Nat.le_of_ble_eq_true rfl) (by first | rfl | exact isR_rf _) ?_
    refine W1 X rfl rfl C k0 (by omega) (by omega) (fun v4 => ?_) _
    refine r_aload_n (i := 3) C dX11_findAnew_50 rfl rfl (by first | rfl | exact isR_rf _) ?_
    refine rz_link C 200 f_X11_246 dX11_findAnew_51 rfl rfl (by decide) (by decide) H1.2.1 hkn ?_
    refine r_astore (i := 4) C dX11_findAnew_54 (Nat.le_of_ble_eq_true rfl) (by first | rfl | exact isR_rf _) ?_
    refine W2 X rfl rfl C (k0 + j1) (by omega) (by omega) _ _ _ (fun v4 => ?_)
    refine r_aload_n (i := 3) C dX11_findAnew_80 rfl rfl (by first | rfl | exact isR_rf _) ?_
    refine r_callSn C s_X11_252 M3 dX11_findAnew_81 (As := [_]) rfl rfl rfl (by first | exact Nat.le_refl _ | exact Nat.le_of_ble_eq_true rfl | omega) (Nat.le_of_ble_eq_true rfl) (by first | exact Nat.le_refl _ | exact Nat.le_of_ble_eq_true rfl | omega) (by first | exact Nat.le_refl _ | exact Nat.le_of_ble_eq_true rfl | omega) ?_
    refine r_iinc1 (i := 2) C dX11_findAnew_84 rfl ?_
    rw [nI_1]
    refine r_goto (tgt := 10) C dX11_findAnew_87 (by decide) ?_
    refine W3 X rfl rfl C (k0 + j1 + j2) (by omega) (by omega) (fun v3 v4 => ?_) _ _
    have := K90 v3 v4
    rw [show k0 + (j1 + j2 + j3) = k0 + j1 + j2 + j3 by omega] at this
    exact this
theorem nI_m1 (m : Nat) : nI m + Int32.ofInt (-1) = nI m - 1 := by
  rw [Int32.sub_eq_add_neg]
  rfl
theorem fa_l2 {w : WZ} {h : Hp} {H t c R dR L d : Nat} (hZ : ZW w h) (A : HW w h H t c R dR L d) (hn31 : wn w < 2 ^ 31) {X : Ctx} {mc ms k0 n0 : Nat} (C : Cx X yX11_findAnew cX11_findAnew 5 none [] 10 mc ms) (hm1 : k0 ≤ mc) (hm2 : n0 ≤ ms) :
    ∀ (m : Nat) (Z Z' : MM), m ≤ wn w → itB (fun k Z => k_findHeight w Z k) m Z = some Z' →
      (∀ v2 v3 v4 : Value, wr X k0 n0 115 [.ref H, .int (nI (wn w)), v2, v3, v4] [] (cm w h Z')) → ∀ v3 v4 : Value, wr X k0 n0 94 [.ref H, .int (nI (wn w)), .int (nI m - 1), v3, v4] [] (cm w h Z) := by
  intro m
  induction m with
  | zero =>
    intro Z Z' hm he K v3 v4
    cases he
    refine r_iload_n (i := 2) C dX11_findAnew_94 rfl rfl ?_
    refine r_if_lt (tgt := 115) C dX11_findAnew_95 (by decide) (fun _ => ?_) (fun q => absurd (show nI 0 - 1 < 0 by decide) q)
    exact K _ _ _
  | succ m ih =>
    intro Z Z' hm he K v3 v4
    obtain ⟨Z1, he1, he2⟩ := ob he
    have hk : m < wn w := by omega
    have kH : hK (cm w h Z) H = 9 := A.1
    have kt : hK (cm w h Z) t = 8 := A.2.2.2.1
    rw [nI_pred]
    refine r_iload_n (i := 2) C dX11_findAnew_94 rfl rfl ?_
    refine r_if_lt (tgt := 115) C dX11_findAnew_95 (by decide) (fun q => absurd q (nI_pos (by omega))) (fun _ => ?_)
    refine r_aload_n (i := 0) C dX11_findAnew_98 rfl rfl (by first | rfl | exact isR_rf _) ?_
    refine r_getR C f_X11_10 dX11_findAnew_99 rfl (by assumption) ?_
    rw [show hR (cm w h Z) fH_tree H = some t from A.2.1]
    refine r_iload_n (i := 2) C dX11_findAnew_102 rfl rfl ?_
    refine r_callVs C v_X11_229 (z_treeGet _ _ A hZ hk Z) dX11_findAnew_103 (by assumption) (ci := 8) (by decide) rfl rfl (As := [_]) rfl rfl rfl (by first | exact Nat.le_refl _ | exact Nat.le_of_ble_eq_true rfl | omega) (Nat.le_of_ble_eq_true rfl) (by first | exact Nat.le_refl _ | exact Nat.le_of_ble_eq_true rfl | omega) (by first | exact Nat.le_refl _ | exact Nat.le_of_ble_eq_true rfl | omega) ?_
    refine r_callSn C s_X11_255 (zk_findHeight _ _ hZ hk he1) dX11_findAnew_106 (As := [_]) rfl rfl rfl (by first | exact Nat.le_refl _ | exact Nat.le_of_ble_eq_true rfl | omega) (Nat.le_of_ble_eq_true rfl) (by first | exact Nat.le_refl _ | exact Nat.le_of_ble_eq_true rfl | omega) (by first | exact Nat.le_refl _ | exact Nat.le_of_ble_eq_true rfl | omega) ?_
    refine r_iinc (i := 2) C dX11_findAnew_109 rfl rfl ?_
    rw [nI_m1]
    refine r_goto (tgt := 94) C dX11_findAnew_112 (by decide) ?_
    exact ih Z1 Z' (by omega) he2 K _ _
theorem fa_l3 {w : WZ} {h : Hp} {H t c R dR L d : Nat} (hZ : ZW w h) (A : HW w h H t c R dR L d) (hn31 : wn w < 2 ^ 31) {X : Ctx} {mc ms k0 n0 : Nat} (C : Cx X yX11_findAnew cX11_findAnew 5 none [] 10 mc ms) (hm1 : k0 ≤ mc) (hm2 : n0 ≤ ms) :
    ∀ (m k : Nat) (Z Z' : MM), k + m = wn w → itF (fun k Z => k_placeChildren w Z k) m k Z = some Z' →
      (∀ v2 v3 v4 : Value, wr X k0 n0 139 [.ref H, .int (nI (wn w)), v2, v3, v4] [] (cm w h Z')) → ∀ v3 v4 : Value, wr X k0 n0 117 [.ref H, .int (nI (wn w)), .int (nI k), v3, v4] [] (cm w h Z) := by
  intro m
  induction m with
  | zero =>
    intro k Z Z' hm he K v3 v4
    have hk' : k = wn w := by omega
    subst hk'
    cases he
    refine r_iload_n (i := 2) C dX11_findAnew_117 rfl rfl ?_
    refine r_iload_n (i := 1) C dX11_findAnew_118 rfl rfl ?_
    refine rn_ic_ge C (wn w) (wn w) rfl rfl hn31 hn31 (tgt := 139) dX11_findAnew_119 (by decide) (fun _ => ?_) (fun q => absurd q (by omega))
    exact K _ _ _
  | succ m ih =>
    intro k Z Z' hm he K v3 v4
    obtain ⟨Z1, he1, he2⟩ := ob he
    have hk : k < wn w := by omega
    have kH : hK (cm w h Z) H = 9 := A.1
    have kt : hK (cm w h Z) t = 8 := A.2.2.2.1
    refine r_iload_n (i := 2) C dX11_findAnew_117 rfl rfl ?_
    refine r_iload_n (i := 1) C dX11_findAnew_118 rfl rfl ?_
    refine rn_ic_ge C k (wn w) rfl rfl (by omega) hn31 (tgt := 139) dX11_findAnew_119 (by decide) (fun q => absurd q (by omega)) (fun _ => ?_)
    refine r_aload_n (i := 0) C dX11_findAnew_122 rfl rfl (by first | rfl | exact isR_rf _) ?_
    refine r_getR C f_X11_10 dX11_findAnew_123 rfl (by assumption) ?_
    rw [show hR (cm w h Z) fH_tree H = some t from A.2.1]
    refine r_iload_n (i := 2) C dX11_findAnew_126 rfl rfl ?_
    refine r_callVs C v_X11_229 (z_treeGet _ _ A hZ hk Z) dX11_findAnew_127 (by assumption) (ci := 8) (by decide) rfl rfl (As := [_]) rfl rfl rfl (by first | exact Nat.le_refl _ | exact Nat.le_of_ble_eq_true rfl | omega) (Nat.le_of_ble_eq_true rfl) (by first | exact Nat.le_refl _ | exact Nat.le_of_ble_eq_true rfl | omega) (by first | exact Nat.le_refl _ | exact Nat.le_of_ble_eq_true rfl | omega) ?_
    refine r_callSn C s_X11_258 (zk_placeChildren _ _ hZ hk he1) dX11_findAnew_130 (As := [_]) rfl rfl rfl (by first | exact Nat.le_refl _ | exact Nat.le_of_ble_eq_true rfl | omega) (Nat.le_of_ble_eq_true rfl) (by first | exact Nat.le_refl _ | exact Nat.le_of_ble_eq_true rfl | omega) (by first | exact Nat.le_refl _ | exact Nat.le_of_ble_eq_true rfl | omega) ?_
    refine r_iinc1 (i := 2) C dX11_findAnew_133 rfl ?_
    rw [nI_1]
    refine r_goto (tgt := 117) C dX11_findAnew_136 (by decide) ?_
    exact ih (k + 1) Z1 Z' (by omega) he2 K _ _
theorem c_findAnew (l : Launch) (G : Gl) {w : WZ} {h : Hp} {Z Z' : MM} {c b K P N S L dS d H t R dR : Nat} {ss : List Nat} {pts cs : Nat → List Nat} {Ds : Nat → Nat} {U up : Nat → List Nat}
    (H0 : FW w h c b K P N S L dS d ss pts Ds U) (A0 : HW w h H t c R dR L d) (hup : ∀ e, e < wn w → U (wE w e) = (up e).map (wE w) ∧ ∀ q, q ∈ up e → q < wn w) (hcs : ∀ k, k < wn w → chn w (wl w 200 k) (cs k) ∧ ∀ x, x ∈ cs k → x < wn w) (hn31 : wn w < 2 ^ 31)
    (he : anZ w (valZ w h Ds ss pts U up) (hI h fH_windowWidth H) cs Z = some Z') :
    ∃ (h' : Hp) (d' j : Nat), MRw l G yX11_findAnew (.code yX11_findAnew cX11_findAnew 5 none) 10 j (60 * j) [.ref H] (cm w h Z) (.inl (none, cm w h' Z')) ∧ FW w h' c b K P N S L dS d' ss pts Ds U ∧ HW w h' H t c R dR L d' ∧ XF w h h' L d d' K P N ∧ j + Ph h' d' ≤ Ph h d := by
  obtain ⟨Z1, e1, he2⟩ := ob he
  obtain ⟨Z2, e2, e3⟩ := ob he2
  obtain ⟨h1, d1, j, H1, A1, X1, c1, W1⟩ := fa_l1 l G hup hcs hn31 (wn w) 0 (by omega) h d Z Z1 H0 A0 rfl rfl e1
  refine ⟨h1, d1, j, ?_, H1, A1, X1, c1⟩
  have kH : hK (cm w h Z) H = 9 := A0.1
  have kt : hK (cm w h Z) t = 8 := A0.2.2.2.1
  refine mr_of (by decide +kernel) (Nat.le_of_ble_eq_true rfl) (ct1 (by first | rfl | exact isR_cat (isR_rf _))) (fun X hG hl C E => ?_)
  subst hG hl
  refine r_aload_n (i := 0) C dX11_findAnew_0 rfl rfl (by first | rfl | exact isR_rf _) ?_
  refine r_getR C f_X11_10 dX11_findAnew_1 rfl (by assumption) ?_
  rw [show hR (cm w h Z) fH_tree H = some t from A0.2.1]
  refine r_callVs C v_X11_51 (z_treeSize _ _ A0 Z) dX11_findAnew_4 (by assumption) (ci := 8) (by decide) rfl rfl (As := []) rfl rfl rfl (by first | exact Nat.le_refl _ | exact Nat.le_of_ble_eq_true rfl | omega) (Nat.le_of_ble_eq_true rfl) (by first | exact Nat.le_refl _ | exact Nat.le_of_ble_eq_true rfl | omega) (by first | exact Nat.le_refl _ | exact Nat.le_of_ble_eq_true rfl | omega) ?_
  refine r_istore_n (i := 1) C dX11_findAnew_7 rfl (Nat.le_of_ble_eq_true rfl) ?_
  refine r_iconst (v := 0) C dX11_findAnew_8 (by decide) ?_
  refine r_istore_n (i := 2) C dX11_findAnew_9 rfl (Nat.le_of_ble_eq_true rfl) ?_
  refine W1 X rfl rfl C 0 (by omega) (by omega) (fun v3 v4 => ?_) _ _
  rw [Nat.zero_add]
  refine r_iload_n (i := 1) C dX11_findAnew_90 rfl rfl ?_
  refine r_iconst (v := 1) C dX11_findAnew_91 (by decide) ?_
  refine r_isub C dX11_findAnew_92 ?_
  refine r_istore_n (i := 2) C dX11_findAnew_93 rfl (Nat.le_of_ble_eq_true rfl) ?_
  refine fa_l2 H1.2.1 A1 hn31 C (by omega) (by omega) (wn w) Z1 Z2 (Nat.le_refl _) e2 (fun v2 v3 v4 => ?_) _ _
  refine r_iconst (v := 0) C dX11_findAnew_115 (by decide) ?_
  refine r_istore_n (i := 2) C dX11_findAnew_116 rfl (Nat.le_of_ble_eq_true rfl) ?_
  refine fa_l3 H1.2.1 A1 hn31 C (by omega) (by omega) (wn w) 0 Z2 Z' (by omega) e3 (fun v2 v3 v4 => ?_) _ _
  exact r_vret C E dX11_findAnew_139 rfl (Nat.le_refl _) (Nat.le_refl _)
