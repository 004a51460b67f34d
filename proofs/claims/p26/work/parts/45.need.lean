/-! ===== Cascade: which variable each one needs ===== -/
/-- what is declared of p by the rule that decides it -/
def dcl (h : Hp) (K : Nat) (Ds : Nat → Nat) (p : Nat) : Option Nat := match hQ h K p with
  | none => none
  | some r => hQ h (Ds r) p
/-- the variable needed -/
def ned (h : Hp) (o : Option Nat) : Int32 := match o with
  | none => -1
  | some d => if hI h fD_kind d = 5 then hI h fD_variable d else -1
/-- the rules that may decide, with their rows of declarations -/
def DW (h : Hp) (K : Nat) (Ds : Nat → Nat) : Prop :=
  ∀ p r, p < 14 → hQ h K p = some r → UD h r (Ds r) ∧ ∀ q d, q < 14 → hQ h (Ds r) q = some d → hK h d = 2
/-- the needs of the first n variables written -/
def wrN (h : Hp) (K N : Nat) (Ds : Nat → Nat) : Nat → Hp
  | 0 => h
  | n + 1 => sA (wrN h K N Ds n) N n (ned h (dcl h K Ds (10 + n)))
theorem wrN_s (h : Hp) (K N : Nat) (Ds : Nat → Nat) : ∀ n, hN (wrN h K N Ds n) = hN h ∧ hK (wrN h K N Ds n) = hK h ∧ hL (wrN h K N Ds n) = hL h ∧ hI (wrN h K N Ds n) = hI h ∧ hR (wrN h K N Ds n) = hR h ∧ hQ (wrN h K N Ds n) = hQ h ∧ hW (wrN h K N Ds n) = hW h
  | 0 => ⟨rfl, rfl, rfl, rfl, rfl, rfl, rfl⟩
  | n + 1 => by
    obtain ⟨a1, a2, a3, a4, a5, a6, a7⟩ := wrN_s h K N Ds n
    unfold wrN
    rw [hN_sA, hK_sA, hL_sA, hI_sA, hR_sA, hQ_sA, hW_sA]
    exact ⟨a1, a2, a3, a4, a5, a6, a7⟩
theorem c_findNeeds (l : Launch) (G : Gl) {h : Hp} {c K N : Nat} {Ds : Nat → Nat} (hk : hK h c = 1) (hK1 : hR h fC_deciding c = some K) (hkK : hK h K = 104) (hlK : hL h K = 14) (hN1 : hR h fC_needed c = some N) (hkN : hK h N = 100) (hlN : hL h N = 4) (hD : DW h K Ds) :
    MRw l G yX0_findNeeds (.code yX0_findNeeds cX0_findNeeds 6 none) 1 0 0 [.ref c] h (.inl (none, wrN h K N Ds 4)) := by
  refine mr_of (by decide +kernel) (Nat.le_of_ble_eq_true rfl) (ct1 (by first | rfl | exact isR_cat (isR_rf _))) (fun X hG hl C E => ?_)
  subst hG hl
  have hloop : ∀ (m v : Nat), v + m = 4 → ∀ v2 v3 v4 v5, wr X 0 0 2 [.ref c, .int (nI v), v2, v3, v4, v5] [] (wrN h K N Ds v) := by
    intro m
    induction m with
    | zero =>
      intro v hv v2 v3 v4 v5
      have : v = 4 := by omega
      subst this
      obtain ⟨h9, e9⟩ : ∃ z, z = wrN h K N Ds 4 := ⟨_, rfl⟩
      obtain ⟨a1, a2, a3, a4, a5, a6, a7⟩ := wrN_s h K N Ds 4
      rw [← e9] at E a2 a3 a5 ⊢
      have hk9 : hK h9 c = 1 := by rw [a2]; exact hk
      have n9 : hR h9 fC_needed c = some N := by rw [a5]; exact hN1
      refine r_iload_n (i := 1) C dX0_findNeeds_2 rfl rfl ?_
      refine r_aload_n (i := 0) C dX0_findNeeds_3 rfl rfl (by first | rfl | exact isR_rf _) ?_
      refine r_getR C f_X0_28 dX0_findNeeds_4 rfl (by assumption) ?_
      rw [n9]
      refine r_alen (a := N) C dX0_findNeeds_7 (show hK h9 N = 100 by rw [a2]; exact hkN) (by decide) ?_
      rw [a3, hlN]
      refine rn_ic_ge C 4 4 rfl rfl (by decide) (by decide) (tgt := 98) dX0_findNeeds_8 (by decide) (fun _ => ?_) (fun q => absurd q (by omega))
      exact r_vret C E dX0_findNeeds_98 rfl (by first | exact Nat.le_refl _ | exact Nat.le_of_ble_eq_true rfl | omega) (by first | exact Nat.le_refl _ | exact Nat.le_of_ble_eq_true rfl | omega)
    | succ m ih =>
      intro v hv v2 v3 v4 v5
      have ih' := ih (v + 1) (by omega)
      obtain ⟨a1, a2, a3, a4, a5, a6, a7⟩ := wrN_s h K N Ds v
      rw [show wrN h K N Ds (v + 1) = sA (wrN h K N Ds v) N v (ned h (dcl h K Ds (10 + v))) from rfl] at ih'
      obtain ⟨h9, e9⟩ : ∃ z, z = wrN h K N Ds v := ⟨_, rfl⟩
      rw [← e9] at ih' a2 a3 a4 a5 a6 ⊢
      have hk9 : hK h9 c = 1 := by rw [a2]; exact hk
      have n9 : hR h9 fC_needed c = some N := by rw [a5]; exact hN1
      have k9 : hR h9 fC_deciding c = some K := by rw [a5]; exact hK1
      have kN9 : hK h9 N = 100 := by rw [a2]; exact hkN
      have hlt : v < hL h9 N := by rw [a3, hlN]; omega
      -- the end of the round: the need is written
      have hput : ∀ (x : Int32) v2 v3 v4 v5, x = ned h (dcl h K Ds (10 + v)) → wr X 0 0 91 [.ref c, .int (nI v), v2, v3, v4, v5] [.int x, .int (nI v), .ref N] h9 := by
        intro x v2 v3 v4 v5 hx
        refine r_iast (a := N) C dX0_findNeeds_91 kN9 rfl hlt ?_
        rw [hx]
        refine r_iinc1 (i := 1) C dX0_findNeeds_92 rfl ?_
        rw [nI_1]
        refine r_goto (tgt := 2) C dX0_findNeeds_95 (by decide) ?_
        exact ih' _ _ _ _
      have hdec : ∀ (o : Option Nat) v2 v3 v4' v5, o = dcl h K Ds (10 + v) → (∀ d, o = some d → hK h9 d = 2) → wr X 0 0 49 [.ref c, .int (nI v), v2, v3, v4', v5] [va_rf o] h9 := by
        intro o v2 v3 v4' v5 ho hod
        cases o with
        | none =>
          refine r_astore (i := 4) C dX0_findNeeds_49 (Nat.le_of_ble_eq_true rfl) (by first | rfl | exact isR_rf _) ?_
          refine r_aload (i := 4) C dX0_findNeeds_51 rfl (by first | rfl | exact isR_rf _) ?_
          refine r_ifnull (o := none) (tgt := 69) C dX0_findNeeds_53 (by decide) (fun _ => ?_) (fun _ q => nomatch q)
          refine r_iconst (v := 0) C dX0_findNeeds_69 (by decide) ?_
          refine r_istore (i := 5) C dX0_findNeeds_70 (Nat.le_of_ble_eq_true rfl) ?_
          refine r_aload_n (i := 0) C dX0_findNeeds_72 rfl rfl (by first | rfl | exact isR_rf _) ?_
          refine r_getR C f_X0_28 dX0_findNeeds_73 rfl (by assumption) ?_
          rw [n9]
          refine r_iload_n (i := 1) C dX0_findNeeds_76 rfl rfl ?_
          refine r_iload (i := 5) C dX0_findNeeds_77 rfl ?_
          refine r_if_eq (tgt := 90) C dX0_findNeeds_79 (by decide) (fun c_79 => ?_) (fun c_79 => ?_)
          · refine r_iconst (v := (-1)) C dX0_findNeeds_90 (by decide) ?_
            exact hput _ _ _ _ _ (by rw [← ho]; rfl)
          · exact absurd rfl c_79
        | some d =>
          have hkd := hod d rfl
          have hned : ned h (dcl h K Ds (10 + v)) = if hI h fD_kind d = 5 then hI h fD_variable d else -1 := by rw [← ho]; rfl
          refine r_astore (i := 4) C dX0_findNeeds_49 (Nat.le_of_ble_eq_true rfl) (by first | rfl | exact isR_rf _) ?_
          refine r_aload (i := 4) C dX0_findNeeds_51 rfl (by first | rfl | exact isR_rf _) ?_
          refine r_ifnull (o := some d) (tgt := 69) C dX0_findNeeds_53 (by decide) (fun q => nomatch q) (fun _ _ => ?_)
          refine r_aload (i := 4) C dX0_findNeeds_56 rfl (by first | rfl | exact isR_rf _) ?_
          refine r_getI C f_X0_75 dX0_findNeeds_58 rfl (by assumption) ?_
          rw [a4]
          refine r_iconst (v := 5) C dX0_findNeeds_61 (by decide) ?_
          refine r_ic_ne (tgt := 69) C dX0_findNeeds_62 (by decide) (fun c_62 => ?_) (fun c_62 => ?_)
          · refine r_iconst (v := 0) C dX0_findNeeds_69 (by decide) ?_
            refine r_istore (i := 5) C dX0_findNeeds_70 (Nat.le_of_ble_eq_true rfl) ?_
            refine r_aload_n (i := 0) C dX0_findNeeds_72 rfl rfl (by first | rfl | exact isR_rf _) ?_
            refine r_getR C f_X0_28 dX0_findNeeds_73 rfl (by assumption) ?_
            rw [n9]
            refine r_iload_n (i := 1) C dX0_findNeeds_76 rfl rfl ?_
            refine r_iload (i := 5) C dX0_findNeeds_77 rfl ?_
            refine r_if_eq (tgt := 90) C dX0_findNeeds_79 (by decide) (fun c_79 => ?_) (fun c_79 => ?_)
            · refine r_iconst (v := (-1)) C dX0_findNeeds_90 (by decide) ?_
              exact hput _ _ _ _ _ (by rw [hned, if_neg c_62])
            · exact absurd rfl c_79
          · refine r_iconst (v := 1) C dX0_findNeeds_65 (by decide) ?_
            refine r_goto (tgt := 70) C dX0_findNeeds_66 (by decide) ?_
            refine r_istore (i := 5) C dX0_findNeeds_70 (Nat.le_of_ble_eq_true rfl) ?_
            refine r_aload_n (i := 0) C dX0_findNeeds_72 rfl rfl (by first | rfl | exact isR_rf _) ?_
            refine r_getR C f_X0_28 dX0_findNeeds_73 rfl (by assumption) ?_
            rw [n9]
            refine r_iload_n (i := 1) C dX0_findNeeds_76 rfl rfl ?_
            refine r_iload (i := 5) C dX0_findNeeds_77 rfl ?_
            refine r_if_eq (tgt := 90) C dX0_findNeeds_79 (by decide) (fun c_79 => ?_) (fun c_79 => ?_)
            · exact absurd c_79 (by decide)
            · refine r_aload (i := 4) C dX0_findNeeds_82 rfl (by first | rfl | exact isR_rf _) ?_
              refine r_getI C f_X0_81 dX0_findNeeds_84 rfl (by assumption) ?_
              rw [a4]
              refine r_goto (tgt := 91) C dX0_findNeeds_87 (by decide) ?_
              exact hput _ _ _ _ _ (by rw [hned, if_pos c_62])
      refine r_iload_n (i := 1) C dX0_findNeeds_2 rfl rfl ?_
      refine r_aload_n (i := 0) C dX0_findNeeds_3 rfl rfl (by first | rfl | exact isR_rf _) ?_
      refine r_getR C f_X0_28 dX0_findNeeds_4 rfl (by assumption) ?_
      rw [n9]
      refine r_alen (a := N) C dX0_findNeeds_7 kN9 (by decide) ?_
      rw [a3, hlN]
      refine rn_ic_ge C v 4 rfl rfl (by omega) (by decide) (tgt := 98) dX0_findNeeds_8 (by decide) (fun q => absurd q (by omega)) (fun _ => ?_)
      refine r_bipush (v := 10) C dX0_findNeeds_11 (by decide) ?_
      refine r_iload_n (i := 1) C dX0_findNeeds_13 rfl rfl ?_
      refine r_iadd C dX0_findNeeds_14 ?_
      rw [show (10 : Int32) + nI v = nI (10 + v) from nI_add 10 v]
      refine r_istore_n (i := 2) C dX0_findNeeds_15 rfl (Nat.le_of_ble_eq_true rfl) ?_
      refine r_iload_n (i := 2) C dX0_findNeeds_16 rfl rfl ?_
      refine r_aload_n (i := 0) C dX0_findNeeds_17 rfl rfl (by first | rfl | exact isR_rf _) ?_
      refine r_getR C f_X0_20 dX0_findNeeds_18 rfl (by assumption) ?_
      rw [k9]
      refine r_alen (a := K) C dX0_findNeeds_21 (show hK h9 K = 104 by rw [a2]; exact hkK) (by decide) ?_
      rw [a3, hlK]
      refine rn_ic_ge C (10 + v) 14 rfl rfl (by omega) (by decide) (tgt := 34) dX0_findNeeds_22 (by decide) (fun q => absurd q (by omega)) (fun _ => ?_)
      refine r_aload_n (i := 0) C dX0_findNeeds_25 rfl rfl (by first | rfl | exact isR_rf _) ?_
      refine r_getR C f_X0_20 dX0_findNeeds_26 rfl (by assumption) ?_
      rw [k9]
      refine r_iload_n (i := 2) C dX0_findNeeds_29 rfl rfl ?_
      refine r_aald (a := K) (q := 1) (j := 10 + v) C dX0_findNeeds_30 (show hK h9 K = 103 + 1 by rw [a2]; exact hkK) (by decide) rfl (by rw [a3, hlK]; omega) ?_
      rw [a6]
      refine r_goto (tgt := 35) C dX0_findNeeds_31 (by decide) ?_
      cases hq : hQ h K (10 + v) with
      | none =>
        refine r_astore_n (i := 3) C dX0_findNeeds_35 rfl (Nat.le_of_ble_eq_true rfl) (by first | rfl | exact isR_rf _) ?_
        refine r_aload_n (i := 3) C dX0_findNeeds_36 rfl rfl (by first | rfl | exact isR_rf _) ?_
        refine r_ifnonnull (o := none) (tgt := 44) C dX0_findNeeds_37 (by decide) (fun _ q => nomatch q) (fun _ => ?_)
        refine r_null C dX0_findNeeds_40 ?_
        refine r_goto (tgt := 49) C dX0_findNeeds_41 (by decide) ?_
        exact hdec none _ _ _ _ (by unfold dcl; rw [hq]) (fun _ q => nomatch q)
      | some r =>
        obtain ⟨hU, hUd⟩ := hD (10 + v) r (by omega) hq
        have hU9 : UD h9 r (Ds r) := ⟨by rw [a2]; exact hU.1, by rw [a5]; exact hU.2.1, by rw [a2]; exact hU.2.2.1, by rw [a3]; exact hU.2.2.2⟩
        have hkr := hU9.1
        refine r_astore_n (i := 3) C dX0_findNeeds_35 rfl (Nat.le_of_ble_eq_true rfl) (by first | rfl | exact isR_rf _) ?_
        refine r_aload_n (i := 3) C dX0_findNeeds_36 rfl rfl (by first | rfl | exact isR_rf _) ?_
        refine r_ifnonnull (o := some r) (tgt := 44) C dX0_findNeeds_37 (by decide) (fun _ _ => ?_) (fun q => nomatch q)
        refine r_aload_n (i := 3) C dX0_findNeeds_44 rfl rfl (by first | rfl | exact isR_rf _) ?_
        refine r_iload_n (i := 2) C dX0_findNeeds_45 rfl rfl ?_
        refine r_callVs C v_X0_71 (c_declarationOf _ _ hU9 (by omega)) dX0_findNeeds_46 (by assumption) (ci := 6) (by decide) rfl rfl (As := [_]) rfl rfl rfl (by first | exact Nat.le_refl _ | exact Nat.le_of_ble_eq_true rfl | omega) (Nat.le_of_ble_eq_true rfl) (by first | exact Nat.le_refl _ | exact Nat.le_of_ble_eq_true rfl | omega) (by first | exact Nat.le_refl _ | exact Nat.le_of_ble_eq_true rfl | omega) ?_
        rw [a6]
        exact hdec (hQ h (Ds r) (10 + v)) _ _ _ _ (by unfold dcl; rw [hq]) (fun d hd => by rw [a2]; exact hUd _ d (by omega) hd)
  refine r_iconst (v := 0) C dX0_findNeeds_0 (by decide) ?_
  refine r_istore_n (i := 1) C dX0_findNeeds_1 rfl (Nat.le_of_ble_eq_true rfl) ?_
  exact hloop 4 0 rfl _ _ _ _
