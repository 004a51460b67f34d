/-! ===== CascadeHouse.settle ===== -/
/-- the looks of the first n elements changed places -/
def tkA (w : WZ) (kp : Nat → Nat) (h : Hp) : Nat → Hp
  | 0 => h
  | n + 1 => tkF (tkA w kp h n) (wE w n) (kp n) (wf w n)
theorem tkF_fr (h : Hp) (e a b : Nat) : hN (tkF h e a b) = hN h ∧ hK (tkF h e a b) = hK h ∧ hL (tkF h e a b) = hL h ∧ hA (tkF h e a b) = hA h ∧ hQ (tkF h e a b) = hQ h ∧ hW (tkF h e a b) = hW h ∧ (∀ f, f ≠ fE_kept → f ≠ fE_fresh → hR (tkF h e a b) f = hR h f) ∧ (∀ f, f ≠ fL_isKnown → hI (tkF h e a b) f = hI h f) ∧
    (∀ x, x ≠ e → hR (tkF h e a b) fE_kept x = hR h fE_kept x ∧ hR (tkF h e a b) fE_fresh x = hR h fE_fresh x) ∧ hR (tkF h e a b) fE_kept e = some b ∧ hR (tkF h e a b) fE_fresh e = some a ∧ (∀ x, x ≠ b → hI (tkF h e a b) fL_isKnown x = hI h fL_isKnown x) ∧ hI (tkF h e a b) fL_isKnown b = 1 := by
  refine ⟨rfl, rfl, rfl, rfl, rfl, rfl, fun f h1 h2 => ?_, fun f h1 => ?_, fun x hx => ⟨?_, ?_⟩, ?_, ?_, fun x hx => ?_, ?_⟩
  · show hR (sR (sR h fE_kept e (some b)) fE_fresh e (some a)) f = _
    rw [rR_ne h2, rR_ne h1]
  · show hI (sI (sR (sR h fE_kept e (some b)) fE_fresh e (some a)) fL_isKnown b 1) f = _
    rw [iI_ne h1]
    rfl
  · show hR (sR (sR h fE_kept e (some b)) fE_fresh e (some a)) fE_kept x = _
    rw [rR_ne (by decide), rR_nb hx]
  · show hR (sR (sR h fE_kept e (some b)) fE_fresh e (some a)) fE_fresh x = _
    rw [rR_nb hx, rR_nb hx]
  · show hR (sR (sR h fE_kept e (some b)) fE_fresh e (some a)) fE_kept e = _
    rw [rR_ne (by decide), rR_at]
  · show hR (sR (sR h fE_kept e (some b)) fE_fresh e (some a)) fE_fresh e = _
    rw [rR_at]
  · show hI (sI (sR (sR h fE_kept e (some b)) fE_fresh e (some a)) fL_isKnown b 1) fL_isKnown x = _
    rw [iI_nb hx]
    rfl
  · show hI (sI (sR (sR h fE_kept e (some b)) fE_fresh e (some a)) fL_isKnown b 1) fL_isKnown b = _
    rw [iI_at]
theorem tkA_fr (w : WZ) (kp : Nat → Nat) (h : Hp) : ∀ n, hN (tkA w kp h n) = hN h ∧ hK (tkA w kp h n) = hK h ∧ hL (tkA w kp h n) = hL h ∧ hA (tkA w kp h n) = hA h ∧ hQ (tkA w kp h n) = hQ h ∧ hW (tkA w kp h n) = hW h ∧ (∀ f, f ≠ fE_kept → f ≠ fE_fresh → hR (tkA w kp h n) f = hR h f) ∧ (∀ f, f ≠ fL_isKnown → hI (tkA w kp h n) f = hI h f)
  | 0 => ⟨rfl, rfl, rfl, rfl, rfl, rfl, fun _ _ _ => rfl, fun _ _ => rfl⟩
  | n + 1 => by
    obtain ⟨a1, a2, a3, a4, a5, a6, a7, a8⟩ := tkA_fr w kp h n
    obtain ⟨b1, b2, b3, b4, b5, b6, b7, b8, -⟩ := tkF_fr (tkA w kp h n) (wE w n) (kp n) (wf w n)
    show hN (tkF (tkA w kp h n) (wE w n) (kp n) (wf w n)) = _ ∧ _
    exact ⟨b1.trans a1, b2.trans a2, b3.trans a3, b4.trans a4, b5.trans a5, b6.trans a6, fun f h1 h2 => (b7 f h1 h2).trans (a7 f h1 h2), fun f h1 => (b8 f h1).trans (a8 f h1)⟩
/-- an element behind the first n has its looks as they were; one of them has them changed -/
theorem tkA_at (w : WZ) (kp : Nat → Nat) (h : Hp) (hi : inj (wn w) (wE w)) : ∀ n, n ≤ wn w → (∀ k, n ≤ k → k < wn w → hR (tkA w kp h n) fE_kept (wE w k) = hR h fE_kept (wE w k) ∧ hR (tkA w kp h n) fE_fresh (wE w k) = hR h fE_fresh (wE w k)) ∧
    (∀ k, k < n → hR (tkA w kp h n) fE_kept (wE w k) = some (wf w k) ∧ hR (tkA w kp h n) fE_fresh (wE w k) = some (kp k)) ∧ (∀ x, (∀ k, k < n → wf w k ≠ x) → hI (tkA w kp h n) fL_isKnown x = hI h fL_isKnown x) ∧ (∀ x, (∀ k, k < n → wE w k ≠ x) → hR (tkA w kp h n) fE_kept x = hR h fE_kept x ∧ hR (tkA w kp h n) fE_fresh x = hR h fE_fresh x)
  | 0, _ => ⟨fun _ _ _ => ⟨rfl, rfl⟩, fun k hk => absurd hk (Nat.not_lt_zero k), fun _ _ => rfl, fun _ _ => ⟨rfl, rfl⟩⟩
  | n + 1, hn => by
    obtain ⟨a1, a2, a3, a4⟩ := tkA_at w kp h hi n (by omega)
    obtain ⟨-, -, -, -, -, -, -, -, b1, b2, b3, b4, b5⟩ := tkF_fr (tkA w kp h n) (wE w n) (kp n) (wf w n)
    have ne : ∀ k, k < wn w → k ≠ n → wE w k ≠ wE w n := fun k hk q z => q (hi k hk n (by omega) z)
    refine ⟨fun k h1 h2 => ?_, fun k hk => ?_, fun x hx => ?_, fun x hx => ?_⟩
    · obtain ⟨c1, c2⟩ := b1 (wE w k) (ne k h2 (by omega))
      obtain ⟨d1, d2⟩ := a1 k (by omega) h2
      exact ⟨c1.trans d1, c2.trans d2⟩
    · by_cases q : k = n
      · subst q
        exact ⟨b2, b3⟩
      · obtain ⟨c1, c2⟩ := b1 (wE w k) (ne k (by omega) q)
        obtain ⟨d1, d2⟩ := a2 k (by omega)
        exact ⟨c1.trans d1, c2.trans d2⟩
    · exact (b4 x (fun z => hx n (by omega) z.symm)).trans (a3 x (fun k hk => hx k (by omega)))
    · obtain ⟨c1, c2⟩ := b1 x (fun z => hx n (by omega) z.symm)
      obtain ⟨d1, d2⟩ := a4 x (fun k hk => hx k (by omega))
      exact ⟨c1.trans d1, c2.trans d2⟩
/-- the kept looks, apart from the fresh ones -/
def KW (w : WZ) (h : Hp) (kp kv ks : Nat → Nat) : Prop :=
  inj (wn w) (wE w) ∧ (∀ e, e < wn w → hR h fE_kept (wE w e) = some (kp e) ∧ LO h (kp e) (kv e) (ks e)) ∧ (∀ e, e < wn w → ∀ e', e' < wn w → kp e ≠ wf w e')
/-- the kept look of the element at k is as the fresh one -/
def smS (h : Hp) (w : WZ) (kp kv : Nat → Nat) (k : Nat) : Prop := hI h fL_isKnown (kp k) ≠ 0 ∧ lsm h (kp k) (kv k) (wf w k) (wv w k)
noncomputable def cnt1 (h : Hp) (w : WZ) (kp kv : Nat → Nat) (x : Int32) (k : Nat) : Int32 := @ite _ (smS h w kp kv k) (Classical.propDecidable _) x (x + 1)
noncomputable def cntS (h : Hp) (w : WZ) (kp kv : Nat → Nat) (went : Int32) (n : Nat) : Int32 := (List.range n).foldl (cnt1 h w kp kv) went
theorem LO_eq {h h' : Hp} {k v s : Nat} (e1 : hK h' = hK h) (e2 : hL h' = hL h) (e3 : hR h' fL_values = hR h fL_values) (e4 : hR h' fL_sources = hR h fL_sources) (H : LO h k v s) : LO h' k v s := by
  unfold LO at *
  rw [e1, e2, e3, e4]
  exact H
theorem cntS_s (h : Hp) (w : WZ) (kp kv : Nat → Nat) (went : Int32) (n : Nat) : cntS h w kp kv went (n + 1) = cnt1 h w kp kv (cntS h w kp kv went n) n := by
  unfold cntS
  rw [List.range_succ, List.foldl_append]
  rfl
/-- the loop of settle: the looks change places -/
theorem st_loop {w : WZ} {hb : Hp} {H t R dR : Nat} {wt : Int32} {kp kv ks : Nat → Nat} (hn31 : wn w < 2 ^ 31) (hkH : hK hb H = 9) (hHt : hR hb fH_tree H = some t) (hkt : hK hb t = 8) (hR1 : hR hb fT_row t = some R) (hAR : AL hb R dR ((List.range (wn w)).map (wE w)))
    (hE : ∀ e, e < wn w → hK hb (wE w e) = 3 ∧ hR hb fE_fresh (wE w e) = some (wf w e) ∧ LO hb (wf w e) (wv w e) (ws w e)) (hKW : KW w hb kp kv ks) {X : Ctx} {mc ms k0 n0 : Nat} (C : Cx X yX11_settle cX11_settle 4 none [] 11 mc ms) (hm1 : k0 ≤ mc) (hm2 : n0 ≤ ms) (v1 : Value) :
    ∀ (m k : Nat), k + m = wn w → (∀ v3 : Value, wr X k0 n0 42 [.ref H, v1, .int (cntS hb w kp kv wt (wn w)), v3] [] (tkA w kp hb (wn w))) → wr X k0 n0 8 [.ref H, v1, .int (cntS hb w kp kv wt k), .int (nI k)] [] (tkA w kp hb k) := by
  intro m
  induction m with
  | zero =>
    intro k hk K
    have hk' : k = wn w := by omega
    subst hk'
    obtain ⟨a1, a2, a3, a4, a5, a6, a7, a8⟩ := tkA_fr w kp hb (wn w)
    have A9 : AL (tkA w kp hb (wn w)) R dR ((List.range (wn w)).map (wE w)) := by
      unfold AL at *
      rw [a2, a3, a5, a8 fA_size (by decide), a7 fA_elementData (by decide) (by decide)]
      exact hAR
    have kH : hK (tkA w kp hb (wn w)) H = 9 := by rw [a2]; exact hkH
    have kt : hK (tkA w kp hb (wn w)) t = 8 := by rw [a2]; exact hkt
    have eH : hR (tkA w kp hb (wn w)) fH_tree H = some t := by rw [a7 _ (by decide) (by decide)]; exact hHt
    have eR : hR (tkA w kp hb (wn w)) fT_row t = some R := by rw [a7 _ (by decide) (by decide)]; exact hR1
    generalize tkA w kp hb (wn w) = h9 at K A9 kH kt eH eR ⊢
    have es : hI h9 fA_size R = nI (wn w) := by
      have := A9.2.1
      rw [List.length_map, List.length_range] at this
      exact this
    refine r_iload_n (i := 3) C dX11_settle_8 rfl rfl ?_
    refine r_aload_n (i := 0) C dX11_settle_9 rfl rfl (by first | rfl | exact isR_rf _) ?_
    refine r_getR C f_X11_10 dX11_settle_10 rfl (by assumption) ?_
    rw [eH]
    refine r_callVs C v_X11_51 (c_treeSize _ _ kt eR A9.1) dX11_settle_13 (by assumption) (ci := 8) (by decide) rfl rfl (As := []) rfl rfl rfl (by first | exact Nat.le_refl _ | exact Nat.le_of_ble_eq_true rfl | omega) (Nat.le_of_ble_eq_true rfl) (by first | exact Nat.le_refl _ | exact Nat.le_of_ble_eq_true rfl | omega) (by first | exact Nat.le_refl _ | exact Nat.le_of_ble_eq_true rfl | omega) ?_
    rw [es]
    refine rn_ic_ge C (wn w) (wn w) rfl rfl hn31 hn31 (tgt := 42) dX11_settle_16 (by decide) (fun _ => ?_) (fun q => absurd q (by omega))
    exact K _
  | succ m ih =>
    intro k hk K
    have hkn : k < wn w := by omega
    have ih' := ih (k + 1) (by omega) K
    rw [cntS_s, show tkA w kp hb (k + 1) = tkF (tkA w kp hb k) (wE w k) (kp k) (wf w k) from rfl] at ih'
    obtain ⟨hi, hkp, hne⟩ := hKW
    obtain ⟨a1, a2, a3, a4, a5, a6, a7, a8⟩ := tkA_fr w kp hb k
    obtain ⟨b1, -, b3, -⟩ := tkA_at w kp hb hi k (by omega)
    obtain ⟨x1, x2, x3⟩ := hE k hkn
    obtain ⟨y1, y2⟩ := hkp k hkn
    have A9 : AL (tkA w kp hb k) R dR ((List.range (wn w)).map (wE w)) := by
      unfold AL at *
      rw [a2, a3, a5, a8 fA_size (by decide), a7 fA_elementData (by decide) (by decide)]
      exact hAR
    have kH : hK (tkA w kp hb k) H = 9 := by rw [a2]; exact hkH
    have kt : hK (tkA w kp hb k) t = 8 := by rw [a2]; exact hkt
    have ke : hK (tkA w kp hb k) (wE w k) = 3 := by rw [a2]; exact x1
    have eH : hR (tkA w kp hb k) fH_tree H = some t := by rw [a7 _ (by decide) (by decide)]; exact hHt
    have eR : hR (tkA w kp hb k) fT_row t = some R := by rw [a7 _ (by decide) (by decide)]; exact hR1
    have q1 : hR (tkA w kp hb k) fE_kept (wE w k) = some (kp k) := (b1 k (Nat.le_refl _) hkn).1.trans y1
    have q2 : hR (tkA w kp hb k) fE_fresh (wE w k) = some (wf w k) := (b1 k (Nat.le_refl _) hkn).2.trans x2
    have q3 : LO (tkA w kp hb k) (kp k) (kv k) (ks k) := LO_eq a2 a3 (a7 _ (by decide) (by decide)) (a7 _ (by decide) (by decide)) y2
    have q4 : LO (tkA w kp hb k) (wf w k) (wv w k) (ws w k) := LO_eq a2 a3 (a7 _ (by decide) (by decide)) (a7 _ (by decide) (by decide)) x3
    obtain ⟨r, M, hr1, hr2⟩ := c_takeFresh (lOf X) (gOf X) ke q1 q2 q3 q4 (hne k hkn k hkn)
    have hsm : (hI (tkA w kp hb k) fL_isKnown (kp k) ≠ 0 ∧ lsm (tkA w kp hb k) (kp k) (kv k) (wf w k) (wv w k)) ↔ smS hb w kp kv k := by
      unfold smS lsm
      rw [a4, b3 (kp k) (fun j hj => (hne k hkn j (by omega)).symm), a8 fL_hasBox (by decide), a8 fL_left (by decide), a8 fL_top (by decide), a8 fL_width (by decide), a8 fL_height (by decide)]
    have hc : cnt1 hb w kp kv (cntS hb w kp kv wt k) k = if r = 0 then cntS hb w kp kv wt k else cntS hb w kp kv wt k + 1 := by
      unfold cnt1
      by_cases z : smS hb w kp kv k
      · rw [if_pos z]
        have : ¬ r = 1 := fun y => (hr1.mp y) (hsm.mpr z)
        rw [if_pos (hr2.resolve_right this)]
      · rw [if_neg z]
        have : r = 1 := hr1.mpr (fun y => z (hsm.mp y))
        rw [if_neg (by rw [this]; decide)]
    rw [hc] at ih'
    generalize tkA w kp hb k = h9 at M A9 kH kt ke eH eR ih' ⊢
    generalize cntS hb w kp kv wt k = ct at ih' ⊢
    have es : hI h9 fA_size R = nI (wn w) := by
      have := A9.2.1
      rw [List.length_map, List.length_range] at this
      exact this
    refine r_iload_n (i := 3) C dX11_settle_8 rfl rfl ?_
    refine r_aload_n (i := 0) C dX11_settle_9 rfl rfl (by first | rfl | exact isR_rf _) ?_
    refine r_getR C f_X11_10 dX11_settle_10 rfl (by assumption) ?_
    rw [eH]
    refine r_callVs C v_X11_51 (c_treeSize _ _ kt eR A9.1) dX11_settle_13 (by assumption) (ci := 8) (by decide) rfl rfl (As := []) rfl rfl rfl (by first | exact Nat.le_refl _ | exact Nat.le_of_ble_eq_true rfl | omega) (Nat.le_of_ble_eq_true rfl) (by first | exact Nat.le_refl _ | exact Nat.le_of_ble_eq_true rfl | omega) (by first | exact Nat.le_refl _ | exact Nat.le_of_ble_eq_true rfl | omega) ?_
    rw [es]
    refine rn_ic_ge C k (wn w) rfl rfl (by omega) hn31 (tgt := 42) dX11_settle_16 (by decide) (fun q => absurd q (by omega)) (fun _ => ?_)
    refine r_aload_n (i := 0) C dX11_settle_19 rfl rfl (by first | rfl | exact isR_rf _) ?_
    refine r_getR C f_X11_10 dX11_settle_20 rfl (by assumption) ?_
    rw [eH]
    refine r_iload_n (i := 3) C dX11_settle_23 rfl rfl ?_
    refine r_callVs C v_X11_229 (c_treeGet _ _ kt eR A9 (es_at hkn) ke) dX11_settle_24 (by assumption) (ci := 8) (by decide) rfl rfl (As := [_]) rfl rfl rfl (by first | exact Nat.le_refl _ | exact Nat.le_of_ble_eq_true rfl | omega) (Nat.le_of_ble_eq_true rfl) (by first | exact Nat.le_refl _ | exact Nat.le_of_ble_eq_true rfl | omega) (by first | exact Nat.le_refl _ | exact Nat.le_of_ble_eq_true rfl | omega) ?_
    refine r_callVs C v_X11_232 M dX11_settle_27 (by assumption) (ci := 3) (by decide) rfl rfl (As := []) rfl rfl rfl (by first | exact Nat.le_refl _ | exact Nat.le_of_ble_eq_true rfl | omega) (Nat.le_of_ble_eq_true rfl) (by first | exact Nat.le_refl _ | exact Nat.le_of_ble_eq_true rfl | omega) (by first | exact Nat.le_refl _ | exact Nat.le_of_ble_eq_true rfl | omega) ?_
    refine r_if_eq (tgt := 36) C dX11_settle_30 (by decide) (fun c_30 => ?_) (fun c_30 => ?_)
    · rw [if_pos c_30] at ih'
      refine r_iinc1 (i := 3) C dX11_settle_36 rfl ?_
      rw [nI_1]
      refine r_goto (tgt := 8) C dX11_settle_39 (by decide) ?_
      exact ih'
    · rw [if_neg c_30] at ih'
      refine r_iinc1 (i := 2) C dX11_settle_33 rfl ?_
      refine r_iinc1 (i := 3) C dX11_settle_36 rfl ?_
      rw [nI_1]
      refine r_goto (tgt := 8) C dX11_settle_39 (by decide) ?_
      exact ih'
