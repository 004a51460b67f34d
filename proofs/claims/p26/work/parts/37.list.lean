/-! ===== RuleBook.append and listFor ===== -/
theorem c_bookAppend (l : Launch) (G : Gl) {h : Hp} {b R S dR dS r : Nat} {rs ss ys : List Nat} (hg : Good h) (hk : hK h b = 7) (hR1 : hR h fB_rules b = some R) (hS1 : hR h fB_byStrength b = some S) (hAR : AL h R dR rs) (hAS : AL h S dS ss)
    (hRS : S ≠ R) (hdd : dS = dR → dS = 4) (hxr : rs.length ≤ 39) (hxs : ss.length ≤ 39) (hkR : ∀ x ∈ rs, hK h x = 6) (hkS : ∀ x ∈ ss, hK h x = 6) (hkr : hK h r = 6) (hys : ss.filter (fun q => !(q == r)) = ys) :
    ∃ (h1 h2 : Hp) (d1 d2 i : Nat), MRw l G yX8_append (.code yX8_append cX8_append 2 none) 8 2 120 [.ref b, .ref r] h (.inl (none, h2)) ∧ AL h1 R d1 (rs ++ [r]) ∧ LF h h1 R dR d1 ∧ Good h1 ∧ AL h2 S d2 (ys.take i ++ r :: ys.drop i) ∧ LF h1 h2 S dS d2 ∧ Good h2 ∧
      i ≤ ys.length ∧ (∀ (j q : Nat), j < i → ys[j]? = some q → sTr h q r) ∧ (∀ (q : Nat), ys[i]? = some q → ¬ sTr h q r) := by
  obtain ⟨h1, d1, c, M1, A1, F1, Q1, g1⟩ := c_add l G hg hAR hxr LK6 hkR hkr
  have hc := AC_le Q1
  have L1 := LF_of F1
  have hS2 : hR h1 fB_byStrength b = some S := by rw [L1.2.2.2.2.1 _ (by decide)]; exact hS1
  have hk1 := KP_k hg L1.1 hk (by decide)
  have hst : ∀ q, sTr h1 q r = sTr h q r := fun q => sTr_eq (L1.2.2.1 _ (by decide) (by decide)) (L1.2.2.1 _ (by decide) (by decide)) (L1.2.2.1 _ (by decide) (by decide)) q r
  obtain ⟨h2, d2, i, M2, A2, L2, g2, i1, i2, i3⟩ := c_rank l G g1 hk1 hS2 (LF_AL hg L1 hAS hRS hdd) hxs (fun x hx => KP_k hg L1.1 (hkS x hx) (by decide)) (KP_k hg L1.1 hkr (by decide)) hys
  refine ⟨h1, h2, d1, d2, i, ?_, A1, L1, g1, A2, L2, g2, i1, fun j q hj hq => by rw [← hst]; exact i2 j q hj hq, fun q hq => by rw [← hst]; exact i3 q hq⟩
  have hkR0 := hAR.1
  refine mr_of (by decide +kernel) (Nat.le_of_ble_eq_true rfl) (ct2 (by first | rfl | exact isR_cat (isR_rf _)) (by first | rfl | exact isR_cat (isR_rf _))) (fun X hG hl C E => ?_)
  subst hG hl
  refine r_aload_n (i := 0) C dX8_append_0 rfl rfl (by first | rfl | exact isR_rf _) ?_
  refine r_getR C f_X8_12 dX8_append_1 rfl (by assumption) ?_
  rw [hR1]
  refine r_aload_n (i := 1) C dX8_append_4 rfl rfl (by first | rfl | exact isR_rf _) ?_
  refine r_callVs C v_X8_31 M1 dX8_append_5 (by assumption) (ci := 0) (by decide) rfl rfl (As := [_]) rfl rfl rfl (by first | exact Nat.le_refl _ | exact Nat.le_of_ble_eq_true rfl | omega) (Nat.le_of_ble_eq_true rfl) (by first | exact Nat.le_refl _ | exact Nat.le_of_ble_eq_true rfl | omega) (by first | exact Nat.le_refl _ | exact Nat.le_of_ble_eq_true rfl | omega) ?_
  refine r_pop C (by first | rfl | exact isR_cat (isR_rf _)) dX8_append_8 ?_
  refine r_aload_n (i := 0) C dX8_append_9 rfl rfl (by first | rfl | exact isR_rf _) ?_
  refine r_aload_n (i := 1) C dX8_append_10 rfl rfl (by first | rfl | exact isR_rf _) ?_
  refine r_callVn C v_X8_35 M2 dX8_append_11 (by assumption) (ci := 7) (by decide) rfl rfl (As := [_]) rfl rfl rfl (by first | exact Nat.le_refl _ | exact Nat.le_of_ble_eq_true rfl | omega) (Nat.le_of_ble_eq_true rfl) (by first | exact Nat.le_refl _ | exact Nat.le_of_ble_eq_true rfl | omega) (by first | exact Nat.le_refl _ | exact Nat.le_of_ble_eq_true rfl | omega) ?_
  exact r_vret C E dX8_append_14 rfl (by first | exact Nat.le_refl _ | exact Nat.le_of_ble_eq_true rfl | omega) (by first | exact Nat.le_refl _ | exact Nat.le_of_ble_eq_true rfl | omega)
/-- how often a row of rules can still grow -/
def Ph (h : Hp) (d : Nat) : Nat := if d = 4 then 3 else if hL h d < 15 then 2 else if hL h d < 22 then 1 else 0
def CP (h : Hp) (d : Nat) : Prop := d = 4 ∨ 10 ≤ hL h d
theorem AC_Ph {h h' : Hp} {d d' n c : Nat} (hg : Good h) (H : AC h h' d d' n c) (hn : n ≤ 15) (hc : CP h d) : c + Ph h' d' ≤ Ph h d ∧ CP h' d' := by
  have hg6 := hg.1
  unfold Ph CP at *
  rcases H with ⟨e1, e2, e3, e4⟩ | ⟨e1, e2, e3, e4, e5⟩
  · rw [e4, e2, e1, if_neg e3]
    exact ⟨by omega, hc⟩
  · have hd4 : d' ≠ 4 := by omega
    rw [if_neg hd4]
    by_cases c4 : d = 4
    · have := e4 c4
      rw [if_pos c4, e1]
      exact ⟨by split <;> (try split) <;> omega, Or.inr this⟩
    · rw [if_neg c4, e1]
      have h1 := hc.resolve_left c4
      have h2 := e3.resolve_left c4
      exact ⟨by split <;> (try split) <;> (try split) <;> (try split) <;> omega, Or.inr (by omega)⟩
/-- the loop of listFor -/
theorem list1 (l : Launch) (G : Gl) {h : Hp} {b S dS L d e : Nat} {ss es : List Nat} {U pts : Nat → List Nat} {fl : Nat → Bool} {w : Int32} (hg : Good h) (hk : hK h b = 7) (hS : hR h fB_byStrength b = some S) (hAS : AL h S dS ss) (hx : ss.length ≤ 16)
    (hSL : S ≠ L) (hdd : dS = d → dS = 4) (hRW : RW h ss pts L d) (hT : TW h es U) (he : e ∈ es)
    (hfl : ∀ r, r ∈ ss → (fl r = true ↔ (hI h fU_least r = -1 ∨ hI h fU_least r ≤ w) ∧ SL h U (pts r) e)) :
    ∀ (td : List Nat) (j : Nat) (h1 : Hp) (d1 : Nat) (xs : List Nat), ss.drop j = td → j ≤ ss.length → xs.length ≤ j → (∀ x, x ∈ xs → x ∈ ss) → Good h1 → LF h h1 L d d1 → AL h1 L d1 xs → CP h1 d1 →
      ∃ (h2 : Hp) (d2 c : Nat), Good h2 ∧ LF h h2 L d d2 ∧ AL h2 L d2 (xs ++ td.filter fl) ∧ CP h2 d2 ∧ c + Ph h2 d2 ≤ Ph h1 d1 ∧ ∀ (X : Ctx), lOf X = l → gOf X = G → ∀ (mc ms k : Nat), Cx X yX8_listFor cX8_listFor 7 none [] 8 mc ms → k + c ≤ mc → 60 * (k + c) ≤ ms →
        (∀ v4 v5 v6, wr X (k + c) (60 * (k + c)) 90 [.ref b, .ref e, .ref L, .int w, v4, v5, v6] [] h2) → ∀ v5 v6, wr X k (60 * k) 12 [.ref b, .ref e, .ref L, .int w, .int (nI j), v5, v6] [] h1 := by
  intro td
  induction td with
  | nil =>
    intro j h1 d1 xs htd hj hxj hxm hg1 F1 A1 C1
    have hle : ss.length ≤ j := List.drop_eq_nil_iff.mp htd
    have hkS := (LF_AL hg F1 hAS hSL hdd).1
    have hsz := (LF_AL hg F1 hAS hSL hdd).2.1
    have hk1 := KP_k hg F1.1 hk (by decide)
    have hS1 : hR h1 fB_byStrength b = some S := by rw [F1.2.2.2.2.1 _ (by decide)]; exact hS
    refine ⟨h1, d1, 0, hg1, F1, by simpa using A1, C1, by omega, fun X e1 e2 mc ms k C hkc hmc K v5 v6 => ?_⟩
    subst e1 e2
    have K' := K (.int (nI j)) v5 v6
    refine r_iload (i := 4) C dX8_listFor_12 rfl ?_
    refine r_aload_n (i := 0) C dX8_listFor_14 rfl rfl (by first | rfl | exact isR_rf _) ?_
    refine r_getR C f_X8_18 dX8_listFor_15 rfl (by assumption) ?_
    rw [hS1]
    refine r_callVs C v_X8_21 (c_size _ _ hkS) dX8_listFor_18 (by assumption) (ci := 0) (by decide) rfl rfl (As := []) rfl rfl rfl (by first | exact Nat.le_refl _ | exact Nat.le_of_ble_eq_true rfl | omega) (Nat.le_of_ble_eq_true rfl) (by first | exact Nat.le_refl _ | exact Nat.le_of_ble_eq_true rfl | omega) (by first | exact Nat.le_refl _ | exact Nat.le_of_ble_eq_true rfl | omega) ?_
    rw [hsz]
    refine rn_ic_ge C j ss.length rfl rfl (by omega) (by omega) (tgt := 90) dX8_listFor_21 (by decide) (fun _ => K') (fun c => absurd c (by omega))
  | cons r td ih =>
    intro j h1 d1 xs htd hj hxj hxm hg1 F1 A1 C1
    have hlt : j < ss.length := Nat.lt_of_not_le fun z => by rw [List.drop_eq_nil_iff.mpr z] at htd; cases htd
    rw [List.drop_eq_getElem_cons hlt] at htd
    have hrj : ss[j]? = some r := by rw [List.getElem?_eq_getElem hlt, (List.cons.inj htd).1]
    have htd' : ss.drop (j + 1) = td := (List.cons.inj htd).2
    have hrs : r ∈ ss := List.mem_of_getElem? hrj
    have AS1 := LF_AL hg F1 hAS hSL hdd
    have hkS := AS1.1
    have hsz := AS1.2.1
    have hk1 := KP_k hg F1.1 hk (by decide)
    have hS1 : hR h1 fB_byStrength b = some S := by rw [F1.2.2.2.2.1 _ (by decide)]; exact hS
    obtain ⟨hkr, P, dP, hP1, hP2, hP3, hP4, -⟩ := LF_RW hg F1 hRW r hrs
    have T1 := KP_TW hg F1.1 (LF_RE F1) hT
    have hkL := A1.1
    have hke : hK h1 e = 3 := (T1 e he).1.1
    have hle : hI h1 fU_least = hI h fU_least := F1.2.2.1 _ (by decide) (by decide)
    have hSLe : SL h1 U (pts r) e = SL h U (pts r) e := SL_LF F1 (pts r) e
    obtain ⟨v, Mv, hv1, hv2⟩ := c_selects l G hkr hP1 hP2 hP3 hP4 T1 he
    rw [hSLe] at hv1
    by_cases cf : fl r = true
    · obtain ⟨f1, f2⟩ := (hfl r hrs).mp cf
      have hxk : ∀ x ∈ xs, hK h1 x = 6 := fun x hxx => KP_k hg F1.1 (hRW x (hxm x hxx)).1 (by decide)
      obtain ⟨h2, d2, c1, M2, A2, F2, Q2, g2⟩ := c_add l G hg1 A1 (by omega) LK6 hxk hkr
      obtain ⟨p1, p2⟩ := AC_Ph hg1 Q2 (by omega) C1
      have hc1 := AC_le Q2
      obtain ⟨h3, d3, c, g3, F3, A3, C3, p3, W⟩ := ih (j + 1) h2 d2 (xs ++ [r]) htd' hlt (by simp; omega) (fun x hxx => by
        rcases List.mem_append.mp hxx with z | z
        · exact hxm x z
        · rw [List.mem_singleton.mp z]; exact hrs) g2 (LF_t F1 (LF_of F2)) A2 p2
      refine ⟨h3, d3, c1 + c, g3, F3, ?_, C3, by omega, fun X e1 e2 mc ms k C hkc hmc K v5 v6 => ?_⟩
      · rw [List.filter_cons_of_pos cf]
        rw [List.append_assoc] at A3
        exact A3
      · have W' := W X e1 e2 mc ms (k + c1) C (by omega) (by omega) (by rw [Nat.add_assoc]; exact K)
        subst e1 e2
        refine r_iload (i := 4) C dX8_listFor_12 rfl ?_
        refine r_aload_n (i := 0) C dX8_listFor_14 rfl rfl (by first | rfl | exact isR_rf _) ?_
        refine r_getR C f_X8_18 dX8_listFor_15 rfl (by assumption) ?_
        rw [hS1]
        refine r_callVs C v_X8_21 (c_size _ _ hkS) dX8_listFor_18 (by assumption) (ci := 0) (by decide) rfl rfl (As := []) rfl rfl rfl (by first | exact Nat.le_refl _ | exact Nat.le_of_ble_eq_true rfl | omega) (Nat.le_of_ble_eq_true rfl) (by first | exact Nat.le_refl _ | exact Nat.le_of_ble_eq_true rfl | omega) (by first | exact Nat.le_refl _ | exact Nat.le_of_ble_eq_true rfl | omega) ?_
        rw [hsz]
        refine rn_ic_ge C j ss.length rfl rfl (by omega) (by omega) (tgt := 90) dX8_listFor_21 (by decide) (fun c => absurd c (by omega)) (fun _ => ?_)
        refine r_aload_n (i := 0) C dX8_listFor_24 rfl rfl (by first | rfl | exact isR_rf _) ?_
        refine r_getR C f_X8_18 dX8_listFor_25 rfl (by assumption) ?_
        rw [hS1]
        refine r_iload (i := 4) C dX8_listFor_28 rfl ?_
        refine r_callVs C v_X8_25 (c_get _ _ AS1 hrj) dX8_listFor_30 (by assumption) (ci := 0) (by decide) rfl rfl (As := [_]) rfl rfl rfl (by first | exact Nat.le_refl _ | exact Nat.le_of_ble_eq_true rfl | omega) (Nat.le_of_ble_eq_true rfl) (by first | exact Nat.le_refl _ | exact Nat.le_of_ble_eq_true rfl | omega) (by first | exact Nat.le_refl _ | exact Nat.le_of_ble_eq_true rfl | omega) ?_
        refine r_cast (o := some _) (ci := 6) C dX8_listFor_33 c_X8_29 rfl (by decide) (by decide +kernel) (fun a q => by cases q; exact hkr) ?_
        refine r_astore (i := 5) C dX8_listFor_36 (Nat.le_of_ble_eq_true rfl) (by first | rfl | exact isR_rf _) ?_
        refine r_aload (i := 5) C dX8_listFor_38 rfl (by first | rfl | exact isR_rf _) ?_
        refine r_getI C f_X8_57 dX8_listFor_40 rfl (by assumption) ?_
        refine r_iconst (v := (-1)) C dX8_listFor_43 (by decide) ?_
        have hend : wr X k (60 * k) 63 [.ref b, .ref e, .ref L, .int w, .int (nI j), .ref r, v6] [.int 1] h1 → True := fun _ => trivial
        have hgo : ∀ v6', wr X k (60 * k) 61 [.ref b, .ref e, .ref L, .int w, .int (nI j), .ref r, v6'] [.int 1] h1 := by
          intro v6'
          refine r_istore (i := 6) C dX8_listFor_61 (Nat.le_of_ble_eq_true rfl) ?_
          refine r_iload (i := 6) C dX8_listFor_63 rfl ?_
          refine r_if_eq (tgt := 84) C dX8_listFor_65 (by decide) (fun c_65 => ?_) (fun c_65 => ?_)
          · exact absurd c_65 (by decide)
          · refine r_aload (i := 5) C dX8_listFor_68 rfl (by first | rfl | exact isR_rf _) ?_
            refine r_aload_n (i := 1) C dX8_listFor_70 rfl rfl (by first | rfl | exact isR_rf _) ?_
            refine r_callVs C v_X8_61 Mv dX8_listFor_71 (by assumption) (ci := 6) (by decide) rfl rfl (As := [_]) rfl rfl rfl (by first | exact Nat.le_refl _ | exact Nat.le_of_ble_eq_true rfl | omega) (Nat.le_of_ble_eq_true rfl) (by first | exact Nat.le_refl _ | exact Nat.le_of_ble_eq_true rfl | omega) (by first | exact Nat.le_refl _ | exact Nat.le_of_ble_eq_true rfl | omega) ?_
            refine r_if_eq (tgt := 84) C dX8_listFor_74 (by decide) (fun c_74 => ?_) (fun c_74 => ?_)
            · exact absurd f2 (v01_n hv1 c_74)
            · refine r_aload_n (i := 2) C dX8_listFor_77 rfl rfl (by first | rfl | exact isR_rf _) ?_
              refine r_aload (i := 5) C dX8_listFor_78 rfl (by first | rfl | exact isR_rf _) ?_
              refine r_callVs C v_X8_31 M2 dX8_listFor_80 (by assumption) (ci := 0) (by decide) rfl rfl (As := [_]) rfl rfl rfl (by first | exact Nat.le_refl _ | exact Nat.le_of_ble_eq_true rfl | omega) (Nat.le_of_ble_eq_true rfl) (by first | exact Nat.le_refl _ | exact Nat.le_of_ble_eq_true rfl | omega) (by first | exact Nat.le_refl _ | exact Nat.le_of_ble_eq_true rfl | omega) ?_
              refine r_pop C (by first | rfl | exact isR_cat (isR_rf _)) dX8_listFor_83 ?_
              refine r_iinc1 (i := 4) C dX8_listFor_84 rfl ?_
              rw [nI_1]
              refine r_goto (tgt := 12) C dX8_listFor_87 (by decide) ?_
              have W2 := W' (.ref r) (.int 1)
              rw [Nat.mul_add] at W2
              exact W2
        refine r_ic_eq (tgt := 56) C dX8_listFor_44 (by decide) (fun c_44 => ?_) (fun c_44 => ?_)
        · refine r_iconst (v := 1) C dX8_listFor_56 (by decide) ?_
          refine r_goto (tgt := 61) C dX8_listFor_57 (by decide) ?_
          exact hgo _
        · refine r_iload_n (i := 3) C dX8_listFor_47 rfl rfl ?_
          refine r_aload (i := 5) C dX8_listFor_48 rfl (by first | rfl | exact isR_rf _) ?_
          refine r_getI C f_X8_57 dX8_listFor_50 rfl (by assumption) ?_
          refine r_ic_lt (tgt := 60) C dX8_listFor_53 (by decide) (fun c_53 => ?_) (fun c_53 => ?_)
          · rw [hle] at c_44 c_53
            exact absurd (f1.resolve_left c_44) (Int32.not_le.mpr c_53)
          · refine r_iconst (v := 1) C dX8_listFor_56 (by decide) ?_
            refine r_goto (tgt := 61) C dX8_listFor_57 (by decide) ?_
            exact hgo _
    · obtain ⟨h3, d3, c, g3, F3, A3, C3, p3, W⟩ := ih (j + 1) h1 d1 xs htd' hlt (by omega) hxm hg1 F1 A1 C1
      refine ⟨h3, d3, c, g3, F3, ?_, C3, p3, fun X e1 e2 mc ms k C hkc hmc K v5 v6 => ?_⟩
      · rw [List.filter_cons_of_neg cf]
        exact A3
      · have W' := W X e1 e2 mc ms k C hkc hmc K
        subst e1 e2
        have hnx : ∀ v6', wr X k (60 * k) 84 [.ref b, .ref e, .ref L, .int w, .int (nI j), .ref r, v6'] [] h1 := by
          intro v6'
          refine r_iinc1 (i := 4) C dX8_listFor_84 rfl ?_
          rw [nI_1]
          refine r_goto (tgt := 12) C dX8_listFor_87 (by decide) ?_
          exact W' _ _
        have hgo : (hI h fU_least r = -1 ∨ hI h fU_least r ≤ w) → ∀ v6', wr X k (60 * k) 61 [.ref b, .ref e, .ref L, .int w, .int (nI j), .ref r, v6'] [.int 1] h1 := by
          intro f1 v6'
          refine r_istore (i := 6) C dX8_listFor_61 (Nat.le_of_ble_eq_true rfl) ?_
          refine r_iload (i := 6) C dX8_listFor_63 rfl ?_
          refine r_if_eq (tgt := 84) C dX8_listFor_65 (by decide) (fun c_65 => ?_) (fun c_65 => ?_)
          · exact absurd c_65 (by decide)
          · refine r_aload (i := 5) C dX8_listFor_68 rfl (by first | rfl | exact isR_rf _) ?_
            refine r_aload_n (i := 1) C dX8_listFor_70 rfl rfl (by first | rfl | exact isR_rf _) ?_
            refine r_callVs C v_X8_61 Mv dX8_listFor_71 (by assumption) (ci := 6) (by decide) rfl rfl (As := [_]) rfl rfl rfl (by first | exact Nat.le_refl _ | exact Nat.le_of_ble_eq_true rfl | omega) (Nat.le_of_ble_eq_true rfl) (by first | exact Nat.le_refl _ | exact Nat.le_of_ble_eq_true rfl | omega) (by first | exact Nat.le_refl _ | exact Nat.le_of_ble_eq_true rfl | omega) ?_
            refine r_if_eq (tgt := 84) C dX8_listFor_74 (by decide) (fun c_74 => ?_) (fun c_74 => ?_)
            · exact hnx _
            · exact absurd ((hfl r hrs).mpr ⟨f1, v01_y hv1 hv2 c_74⟩) cf
        refine r_iload (i := 4) C dX8_listFor_12 rfl ?_
        refine r_aload_n (i := 0) C dX8_listFor_14 rfl rfl (by first | rfl | exact isR_rf _) ?_
        refine r_getR C f_X8_18 dX8_listFor_15 rfl (by assumption) ?_
        rw [hS1]
        refine r_callVs C v_X8_21 (c_size _ _ hkS) dX8_listFor_18 (by assumption) (ci := 0) (by decide) rfl rfl (As := []) rfl rfl rfl (by first | exact Nat.le_refl _ | exact Nat.le_of_ble_eq_true rfl | omega) (Nat.le_of_ble_eq_true rfl) (by first | exact Nat.le_refl _ | exact Nat.le_of_ble_eq_true rfl | omega) (by first | exact Nat.le_refl _ | exact Nat.le_of_ble_eq_true rfl | omega) ?_
        rw [hsz]
        refine rn_ic_ge C j ss.length rfl rfl (by omega) (by omega) (tgt := 90) dX8_listFor_21 (by decide) (fun c => absurd c (by omega)) (fun _ => ?_)
        refine r_aload_n (i := 0) C dX8_listFor_24 rfl rfl (by first | rfl | exact isR_rf _) ?_
        refine r_getR C f_X8_18 dX8_listFor_25 rfl (by assumption) ?_
        rw [hS1]
        refine r_iload (i := 4) C dX8_listFor_28 rfl ?_
        refine r_callVs C v_X8_25 (c_get _ _ AS1 hrj) dX8_listFor_30 (by assumption) (ci := 0) (by decide) rfl rfl (As := [_]) rfl rfl rfl (by first | exact Nat.le_refl _ | exact Nat.le_of_ble_eq_true rfl | omega) (Nat.le_of_ble_eq_true rfl) (by first | exact Nat.le_refl _ | exact Nat.le_of_ble_eq_true rfl | omega) (by first | exact Nat.le_refl _ | exact Nat.le_of_ble_eq_true rfl | omega) ?_
        refine r_cast (o := some _) (ci := 6) C dX8_listFor_33 c_X8_29 rfl (by decide) (by decide +kernel) (fun a q => by cases q; exact hkr) ?_
        refine r_astore (i := 5) C dX8_listFor_36 (Nat.le_of_ble_eq_true rfl) (by first | rfl | exact isR_rf _) ?_
        refine r_aload (i := 5) C dX8_listFor_38 rfl (by first | rfl | exact isR_rf _) ?_
        refine r_getI C f_X8_57 dX8_listFor_40 rfl (by assumption) ?_
        refine r_iconst (v := (-1)) C dX8_listFor_43 (by decide) ?_
        refine r_ic_eq (tgt := 56) C dX8_listFor_44 (by decide) (fun c_44 => ?_) (fun c_44 => ?_)
        · refine r_iconst (v := 1) C dX8_listFor_56 (by decide) ?_
          refine r_goto (tgt := 61) C dX8_listFor_57 (by decide) ?_
          exact hgo (Or.inl (by rw [← hle]; exact c_44)) _
        · refine r_iload_n (i := 3) C dX8_listFor_47 rfl rfl ?_
          refine r_aload (i := 5) C dX8_listFor_48 rfl (by first | rfl | exact isR_rf _) ?_
          refine r_getI C f_X8_57 dX8_listFor_50 rfl (by assumption) ?_
          refine r_ic_lt (tgt := 60) C dX8_listFor_53 (by decide) (fun c_53 => ?_) (fun c_53 => ?_)
          · refine r_iconst (v := 0) C dX8_listFor_60 (by decide) ?_
            refine r_istore (i := 6) C dX8_listFor_61 (Nat.le_of_ble_eq_true rfl) ?_
            refine r_iload (i := 6) C dX8_listFor_63 rfl ?_
            refine r_if_eq (tgt := 84) C dX8_listFor_65 (by decide) (fun c_65 => ?_) (fun c_65 => ?_)
            · exact hnx _
            · exact absurd rfl c_65
          · refine r_iconst (v := 1) C dX8_listFor_56 (by decide) ?_
            refine r_goto (tgt := 61) C dX8_listFor_57 (by decide) ?_
            exact hgo (Or.inr (by rw [← hle]; exact Int32.not_lt.mp c_53)) _
/-- the rules that fit an element and are there for it, the strongest one first -/
theorem c_listFor (l : Launch) (G : Gl) {h : Hp} {b S dS L d e : Nat} {ss es xs : List Nat} {U pts : Nat → List Nat} {fl : Nat → Bool} (hg : Good h) (hk : hK h b = 7) (hS : hR h fB_byStrength b = some S) (hAS : AL h S dS ss) (hx : ss.length ≤ 16)
    (hAL : AL h L d xs) (hCP : CP h d) (hSL : S ≠ L) (hdd : dS = d → dS = 4) (hRW : RW h ss pts L d) (hT : TW h es U) (he : e ∈ es)
    (hfl : ∀ r, r ∈ ss → (fl r = true ↔ (hI h fU_least r = -1 ∨ hI h fU_least r ≤ wAr h (U e)) ∧ SL h U (pts r) e)) :
    ∃ (h2 : Hp) (d2 c : Nat), MRw l G yX8_listFor (.code yX8_listFor cX8_listFor 7 none) 8 c (60 * c) [.ref b, .ref e, .ref L] h (.inl (none, h2)) ∧ Good h2 ∧ LF h h2 L d d2 ∧ AL h2 L d2 (ss.filter fl) ∧ CP h2 d2 ∧ c + Ph h2 d2 ≤ Ph h d := by
  obtain ⟨h1, M1, A1, F1, g1⟩ := c_clear l G hg hAL
  have hC1 : CP h1 d ∧ Ph h1 d = Ph h d := by
    unfold CP Ph at *
    rcases F1.1 with ⟨-, -, -, q⟩ | ⟨q1, q2, -⟩
    · rw [q]; exact ⟨hCP, rfl⟩
    · exfalso
      rcases hAL.2.2.2.2 with ⟨z, -⟩ | ⟨-, z, -⟩
      · have := hg.1; omega
      · have := (kind_in hg z (by decide)).2; omega
  obtain ⟨h2, d2, c, g2, F2, A2, C2, p2, W⟩ := list1 l G (w := wAr h (U e)) hg hk hS hAS hx hSL hdd hRW hT he hfl ss 0 h1 d [] rfl (Nat.zero_le _) (Nat.le_refl _) (fun x hx => by cases hx) g1 (LF_of F1) A1 hC1.1
  rw [hC1.2] at p2
  refine ⟨h2, d2, c, ?_, g2, F2, by simpa using A2, C2, p2⟩
  obtain ⟨⟨hke, -⟩, -, hU, hUs, -⟩ := hT e he
  have hkL := hAL.1
  refine mr_of (by decide +kernel) (Nat.le_of_ble_eq_true rfl) (ct3 (by first | rfl | exact isR_cat (isR_rf _)) (by first | rfl | exact isR_cat (isR_rf _)) (by first | rfl | exact isR_cat (isR_rf _))) (fun X hG hl C E => ?_)
  subst hG hl
  refine r_aload_n (i := 1) C dX8_listFor_0 rfl rfl (by first | rfl | exact isR_rf _) ?_
  refine r_callVs C v_X8_49 (c_widthAround _ _ hke hU (fun a ha => (hT a (hUs a ha)).1)) dX8_listFor_1 (by assumption) (ci := 3) (by decide) rfl rfl (As := []) rfl rfl rfl (by first | exact Nat.le_refl _ | exact Nat.le_of_ble_eq_true rfl | omega) (Nat.le_of_ble_eq_true rfl) (by first | exact Nat.le_refl _ | exact Nat.le_of_ble_eq_true rfl | omega) (by first | exact Nat.le_refl _ | exact Nat.le_of_ble_eq_true rfl | omega) ?_
  refine r_istore_n (i := 3) C dX8_listFor_4 rfl (Nat.le_of_ble_eq_true rfl) ?_
  refine r_aload_n (i := 2) C dX8_listFor_5 rfl rfl (by first | rfl | exact isR_rf _) ?_
  refine r_callVn C v_X8_54 M1 dX8_listFor_6 (by assumption) (ci := 0) (by decide) rfl rfl (As := []) rfl rfl rfl (by first | exact Nat.le_refl _ | exact Nat.le_of_ble_eq_true rfl | omega) (Nat.le_of_ble_eq_true rfl) (by first | exact Nat.le_refl _ | exact Nat.le_of_ble_eq_true rfl | omega) (by first | exact Nat.le_refl _ | exact Nat.le_of_ble_eq_true rfl | omega) ?_
  refine r_iconst (v := 0) C dX8_listFor_9 (by decide) ?_
  refine r_istore (i := 4) C dX8_listFor_10 (Nat.le_of_ble_eq_true rfl) ?_
  refine W X rfl rfl _ _ 0 C (by omega) (by omega) (fun v4 v5 v6 => ?_) _ _
  rw [Nat.zero_add]
  exact r_vret C E dX8_listFor_90 rfl (by first | exact Nat.le_refl _ | exact Nat.le_of_ble_eq_true rfl | omega) (by first | exact Nat.le_refl _ | exact Nat.le_of_ble_eq_true rfl | omega)
