/-! ===== Cascade.findOne ===== -/
/-- a property inherited or as at first: its value and its rule -/
def ihV (h : Hp) (e p : Nat) (b : Int32) : Int32 × Int32 := if b = 0 then (pAf p, -1) else match hR h fE_parent e with
  | none => (pAf p, -1)
  | some q => (lv h (frs h q) p, ls h (frs h q) p)
/-- whether it is inherited, by the word of the declaration -/
def ihB (p : Nat) (k : Int32) : Int32 := if k = 0 then 1 else if (if nI p < 8 then (0 : Int32) else 1) = 0 then 0 else if k = 1 then 0 else 1
/-- the value and the rule of a property -/
def foV (h : Hp) (e K : Nat) (Ds : Nat → Nat) (p : Nat) : Int32 × Int32 := match hQ h K p with
  | none => ihV h e p (if nI p < 8 then 0 else 1)
  | some r => match hQ h (Ds r) p with
    | none => ihV h e p (if nI p < 8 then 0 else 1)
    | some d => if hI h fD_kind d = 4 then (hI h fD_number d, hI h fU_number r)
      else if hI h fD_kind d = 5 then
        (if nbv p (hA h (vls h (frs h e)) (10 + (hI h fD_variable d).toNatClampNeg)) (hI h fD_number d) = -1 then ihV h e p (ihB p (hI h fD_kind d))
          else (nbv p (hA h (vls h (frs h e)) (10 + (hI h fD_variable d).toNatClampNeg)) (hI h fD_number d), hI h fU_number r))
      else ihV h e p (ihB p (hI h fD_kind d))
/-- a value and a source put into the fresh look of e -/
def ptF (h : Hp) (e p : Nat) (v : Int32 × Int32) : Hp := sA (sA h (vls h (frs h e)) p v.1) (scs h (frs h e)) p v.2
/-- the last part of findOne -/
theorem fone1 {h : Hp} {c e p f mc ms : Nat} {X : Ctx} {b : Int32} {r3 v4 v6 : Value} (C : Cx X yX0_findOne cX0_findOne 7 none [] f mc ms) (hf : 2 ≤ f) (hE : EW h e) (hP : ∀ q, hR h fE_parent e = some q → EW h q) (hp : p < 14)
    (E : Ex X 0 0 (.inl (none, ptF h e p (ihV h e p b)))) (hmc : 0 ≤ mc) : wr X 0 0 152 [.ref c, .ref e, .int (nI p), r3, v4, .int b, v6] [] h := by
  obtain ⟨hke, hfr, hL, -, -⟩ := hE
  have hkf := hL.1
  have hfst : b = 0 ∨ hR h fE_parent e = none → ∀ w6, wr X 0 0 196 [.ref c, .ref e, .int (nI p), r3, v4, .int b, w6] [] h := by
    intro hb w6
    have hih : ihV h e p b = (pAf p, -1) := by
      unfold ihV
      by_cases z : b = 0
      · exact if_pos z
      · rw [if_neg z, hb.resolve_left z]
    rw [hih] at E
    refine r_aload_n (i := 1) C dX0_findOne_196 rfl rfl (by first | rfl | exact isR_rf _) ?_
    refine r_getR C f_X0_59 dX0_findOne_197 rfl (by assumption) ?_
    rw [hfr]
    refine r_iload_n (i := 2) C dX0_findOne_200 rfl rfl ?_
    refine r_iload_n (i := 2) C dX0_findOne_201 rfl rfl ?_
    refine r_callSs C s_X0_123 (c_atFirst _ _ hp) dX0_findOne_202 (As := [_]) rfl rfl rfl (by first | exact Nat.le_refl _ | exact Nat.le_of_ble_eq_true rfl | omega) (Nat.le_of_ble_eq_true rfl) (by first | exact Nat.le_refl _ | exact Nat.le_of_ble_eq_true rfl | omega) (by first | exact Nat.le_refl _ | exact Nat.le_of_ble_eq_true rfl | omega) ?_
    refine r_iconst (v := (-1)) C dX0_findOne_205 (by decide) ?_
    refine r_callVn C v_X0_65 (c_put _ _ hL hp) dX0_findOne_206 (by assumption) (ci := 4) (by decide) rfl rfl (As := [_, _, _]) rfl rfl rfl (by first | exact Nat.le_refl _ | exact Nat.le_of_ble_eq_true rfl | omega) (Nat.le_of_ble_eq_true rfl) (by first | exact Nat.le_refl _ | exact Nat.le_of_ble_eq_true rfl | omega) (by first | exact Nat.le_refl _ | exact Nat.le_of_ble_eq_true rfl | omega) ?_
    exact r_vret C E dX0_findOne_209 rfl (Nat.le_refl _) (Nat.le_refl _)
  refine r_iload (i := 5) C dX0_findOne_152 rfl ?_
  refine r_if_eq (tgt := 196) C dX0_findOne_154 (by decide) (fun c_154 => ?_) (fun c_154 => ?_)
  · exact hfst (Or.inl c_154) _
  · refine r_aload_n (i := 1) C dX0_findOne_157 rfl rfl (by first | rfl | exact isR_rf _) ?_
    refine r_getR C f_X0_112 dX0_findOne_158 rfl (by assumption) ?_
    cases hpr : hR h fE_parent e with
    | none =>
      refine r_ifnull (o := none) (tgt := 196) C dX0_findOne_161 (by decide) (fun _ => ?_) (fun _ q => nomatch q)
      exact hfst (Or.inr hpr) _
    | some q =>
      obtain ⟨hkq, hfq, hLq, -, -⟩ := hP q hpr
      have hkq4 := hLq.1
      have hih : ihV h e p b = (lv h (frs h q) p, ls h (frs h q) p) := by
        unfold ihV
        rw [if_neg c_154, hpr]
      rw [hih] at E
      refine r_ifnull (o := some q) (tgt := 196) C dX0_findOne_161 (by decide) (fun z => nomatch z) (fun _ _ => ?_)
      refine r_aload_n (i := 1) C dX0_findOne_164 rfl rfl (by first | rfl | exact isR_rf _) ?_
      refine r_getR C f_X0_112 dX0_findOne_165 rfl (by assumption) ?_
      rw [hpr]
      refine r_getR C f_X0_59 dX0_findOne_168 rfl (by assumption) ?_
      rw [hfq]
      refine r_astore (i := 6) C dX0_findOne_171 (Nat.le_of_ble_eq_true rfl) (by first | rfl | exact isR_rf _) ?_
      refine r_aload_n (i := 1) C dX0_findOne_173 rfl rfl (by first | rfl | exact isR_rf _) ?_
      refine r_getR C f_X0_59 dX0_findOne_174 rfl (by assumption) ?_
      rw [hfr]
      refine r_iload_n (i := 2) C dX0_findOne_177 rfl rfl ?_
      refine r_aload (i := 6) C dX0_findOne_178 rfl (by first | rfl | exact isR_rf _) ?_
      refine r_iload_n (i := 2) C dX0_findOne_180 rfl rfl ?_
      refine r_callVs C v_X0_116 (c_valueOf _ _ hLq hp) dX0_findOne_181 (by assumption) (ci := 4) (by decide) rfl rfl (As := [_]) rfl rfl rfl (by first | exact Nat.le_refl _ | exact Nat.le_of_ble_eq_true rfl | omega) (Nat.le_of_ble_eq_true rfl) (by first | exact Nat.le_refl _ | exact Nat.le_of_ble_eq_true rfl | omega) (by first | exact Nat.le_refl _ | exact Nat.le_of_ble_eq_true rfl | omega) ?_
      refine r_aload (i := 6) C dX0_findOne_184 rfl (by first | rfl | exact isR_rf _) ?_
      refine r_iload_n (i := 2) C dX0_findOne_186 rfl rfl ?_
      refine r_callVs C v_X0_120 (c_sourceOf _ _ hLq hp) dX0_findOne_187 (by assumption) (ci := 4) (by decide) rfl rfl (As := [_]) rfl rfl rfl (by first | exact Nat.le_refl _ | exact Nat.le_of_ble_eq_true rfl | omega) (Nat.le_of_ble_eq_true rfl) (by first | exact Nat.le_refl _ | exact Nat.le_of_ble_eq_true rfl | omega) (by first | exact Nat.le_refl _ | exact Nat.le_of_ble_eq_true rfl | omega) ?_
      refine r_callVn C v_X0_65 (c_put _ _ hL hp) dX0_findOne_190 (by assumption) (ci := 4) (by decide) rfl rfl (As := [_, _, _]) rfl rfl rfl (by first | exact Nat.le_refl _ | exact Nat.le_of_ble_eq_true rfl | omega) (Nat.le_of_ble_eq_true rfl) (by first | exact Nat.le_refl _ | exact Nat.le_of_ble_eq_true rfl | omega) (by first | exact Nat.le_refl _ | exact Nat.le_of_ble_eq_true rfl | omega) ?_
      refine r_goto (tgt := 209) C dX0_findOne_193 (by decide) ?_
      exact r_vret C E dX0_findOne_209 rfl (Nat.le_refl _) (Nat.le_refl _)
/-- a property with what decides it: its value and its rule into the fresh look -/
theorem c_findOne (l : Launch) (G : Gl) {h : Hp} {c e p K : Nat} {Ds : Nat → Nat} (hk : hK h c = 1) (hK1 : hR h fC_deciding c = some K) (hkK : hK h K = 104) (hlK : hL h K = 14) (hD : DW h K Ds) (hE : EW h e) (hP : ∀ q, hR h fE_parent e = some q → EW h q) (hp : p < 14)
    (hV : ∀ r d, hQ h K p = some r → hQ h (Ds r) p = some d → hI h fD_kind d = 5 → ∃ w, w < 4 ∧ hI h fD_variable d = nI w) :
    MRw l G yX0_findOne (.code yX0_findOne cX0_findOne 7 none) 2 0 0 [.ref c, .ref e, .int (nI p)] h (.inl (none, ptF h e p (foV h e K Ds p))) := by
  have hE0 := hE
  obtain ⟨hke, hfr, hL, -, -⟩ := hE
  have hkf := hL.1
  refine mr_of (by decide +kernel) (Nat.le_of_ble_eq_true rfl) (ct3 (by first | rfl | exact isR_cat (isR_rf _)) (by first | rfl | exact isR_cat (isR_rf _)) (by first | rfl | exact isR_cat (isR_rf _))) (fun X hG hl C E => ?_)
  subst hG hl
  refine r_iload_n (i := 2) C dX0_findOne_0 rfl rfl ?_
  refine r_if_lt (tgt := 22) C dX0_findOne_1 (by decide) (fun c_1 => ?_) (fun c_1 => ?_)
  · exact absurd c_1 (nI_pos (by omega))
  · refine r_iload_n (i := 2) C dX0_findOne_4 rfl rfl ?_
    refine r_aload_n (i := 0) C dX0_findOne_5 rfl rfl (by first | rfl | exact isR_rf _) ?_
    refine r_getR C f_X0_20 dX0_findOne_6 rfl (by assumption) ?_
    rw [hK1]
    refine r_alen (a := K) C dX0_findOne_9 hkK (by decide) ?_
    rw [hlK]
    refine rn_ic_ge C p 14 rfl rfl (by omega) (by decide) (tgt := 22) dX0_findOne_10 (by decide) (fun q => absurd q (by omega)) (fun _ => ?_)
    refine r_aload_n (i := 0) C dX0_findOne_13 rfl rfl (by first | rfl | exact isR_rf _) ?_
    refine r_getR C f_X0_20 dX0_findOne_14 rfl (by assumption) ?_
    rw [hK1]
    refine r_iload_n (i := 2) C dX0_findOne_17 rfl rfl ?_
    refine r_aald (a := K) (q := 1) (j := p) C dX0_findOne_18 hkK (by decide) rfl (by rw [hlK]; exact hp) ?_
    refine r_goto (tgt := 23) C dX0_findOne_19 (by decide) ?_
    cases hr : hQ h K p with
    | none =>
      have hfo : foV h e K Ds p = ihV h e p (if nI p < 8 then 0 else 1) := by unfold foV; rw [hr]
      rw [hfo] at E
      refine r_astore_n (i := 3) C dX0_findOne_23 rfl (Nat.le_of_ble_eq_true rfl) (by first | rfl | exact isR_rf _) ?_
      refine r_aload_n (i := 3) C dX0_findOne_24 rfl rfl (by first | rfl | exact isR_rf _) ?_
      refine r_ifnonnull (o := none) (tgt := 32) C dX0_findOne_25 (by decide) (fun _ q => nomatch q) (fun _ => ?_)
      refine r_null C dX0_findOne_28 ?_
      refine r_goto (tgt := 37) C dX0_findOne_29 (by decide) ?_
      refine r_astore (i := 4) C dX0_findOne_37 (Nat.le_of_ble_eq_true rfl) (by first | rfl | exact isR_rf _) ?_
      refine r_iload_n (i := 2) C dX0_findOne_39 rfl rfl ?_
      refine r_callSs C s_X0_99 (c_isInherited _ _) dX0_findOne_40 (As := [_]) rfl rfl rfl (by first | exact Nat.le_refl _ | exact Nat.le_of_ble_eq_true rfl | omega) (Nat.le_of_ble_eq_true rfl) (by first | exact Nat.le_refl _ | exact Nat.le_of_ble_eq_true rfl | omega) (by first | exact Nat.le_refl _ | exact Nat.le_of_ble_eq_true rfl | omega) ?_
      refine r_istore (i := 5) C dX0_findOne_43 (Nat.le_of_ble_eq_true rfl) ?_
      refine r_aload_n (i := 3) C dX0_findOne_45 rfl rfl (by first | rfl | exact isR_rf _) ?_
      refine r_ifnull (o := none) (tgt := 152) C dX0_findOne_46 (by decide) (fun _ => ?_) (fun _ q => nomatch q)
      exact fone1 C (by omega) hE0 hP hp E (Nat.le_refl _)
    | some r =>
      obtain ⟨hU, hUd⟩ := hD p r hp hr
      have hkr := hU.1
      refine r_astore_n (i := 3) C dX0_findOne_23 rfl (Nat.le_of_ble_eq_true rfl) (by first | rfl | exact isR_rf _) ?_
      refine r_aload_n (i := 3) C dX0_findOne_24 rfl rfl (by first | rfl | exact isR_rf _) ?_
      refine r_ifnonnull (o := some r) (tgt := 32) C dX0_findOne_25 (by decide) (fun _ _ => ?_) (fun q => nomatch q)
      refine r_aload_n (i := 3) C dX0_findOne_32 rfl rfl (by first | rfl | exact isR_rf _) ?_
      refine r_iload_n (i := 2) C dX0_findOne_33 rfl rfl ?_
      refine r_callVs C v_X0_71 (c_declarationOf _ _ hU hp) dX0_findOne_34 (by assumption) (ci := 6) (by decide) rfl rfl (As := [_]) rfl rfl rfl (by first | exact Nat.le_refl _ | exact Nat.le_of_ble_eq_true rfl | omega) (Nat.le_of_ble_eq_true rfl) (by first | exact Nat.le_refl _ | exact Nat.le_of_ble_eq_true rfl | omega) (by first | exact Nat.le_refl _ | exact Nat.le_of_ble_eq_true rfl | omega) ?_
      cases hd : hQ h (Ds r) p with
      | none =>
        have hfo : foV h e K Ds p = ihV h e p (if nI p < 8 then 0 else 1) := by unfold foV; rw [hr]; show (match hQ h (Ds r) p with | none => _ | some d => _) = _; rw [hd]
        rw [hfo] at E
        refine r_astore (i := 4) C dX0_findOne_37 (Nat.le_of_ble_eq_true rfl) (by first | rfl | exact isR_rf _) ?_
        refine r_iload_n (i := 2) C dX0_findOne_39 rfl rfl ?_
        refine r_callSs C s_X0_99 (c_isInherited _ _) dX0_findOne_40 (As := [_]) rfl rfl rfl (by first | exact Nat.le_refl _ | exact Nat.le_of_ble_eq_true rfl | omega) (Nat.le_of_ble_eq_true rfl) (by first | exact Nat.le_refl _ | exact Nat.le_of_ble_eq_true rfl | omega) (by first | exact Nat.le_refl _ | exact Nat.le_of_ble_eq_true rfl | omega) ?_
        refine r_istore (i := 5) C dX0_findOne_43 (Nat.le_of_ble_eq_true rfl) ?_
        refine r_aload_n (i := 3) C dX0_findOne_45 rfl rfl (by first | rfl | exact isR_rf _) ?_
        refine r_ifnull (o := some r) (tgt := 152) C dX0_findOne_46 (by decide) (fun q => nomatch q) (fun _ _ => ?_)
        refine r_aload (i := 4) C dX0_findOne_49 rfl (by first | rfl | exact isR_rf _) ?_
        refine r_ifnull (o := none) (tgt := 152) C dX0_findOne_51 (by decide) (fun _ => ?_) (fun _ q => nomatch q)
        exact fone1 C (by omega) hE0 hP hp E (Nat.le_refl _)
      | some d =>
        have hkd := hUd p d hp hd
        have hfo : foV h e K Ds p = if hI h fD_kind d = 4 then (hI h fD_number d, hI h fU_number r)
            else if hI h fD_kind d = 5 then
              (if nbv p (hA h (vls h (frs h e)) (10 + (hI h fD_variable d).toNatClampNeg)) (hI h fD_number d) = -1 then ihV h e p (ihB p (hI h fD_kind d))
                else (nbv p (hA h (vls h (frs h e)) (10 + (hI h fD_variable d).toNatClampNeg)) (hI h fD_number d), hI h fU_number r))
            else ihV h e p (ihB p (hI h fD_kind d)) := by unfold foV; rw [hr]; show (match hQ h (Ds r) p with | none => _ | some d => _) = _; rw [hd]
        rw [hfo] at E
        -- inherited or as at first, by the word
        have hgo : Ex X 0 0 (.inl (none, ptF h e p (ihV h e p (ihB p (hI h fD_kind d))))) → ∀ v6, wr X 0 0 123 [.ref c, .ref e, .int (nI p), .ref r, .ref d, .int (if nI p < 8 then 0 else 1), v6] [] h := by
          intro E2 v6
          unfold ihB at E2
          refine r_aload (i := 4) C dX0_findOne_123 rfl (by first | rfl | exact isR_rf _) ?_
          refine r_getI C f_X0_75 dX0_findOne_125 rfl (by assumption) ?_
          refine r_if_eq (tgt := 145) C dX0_findOne_128 (by decide) (fun c_128 => ?_) (fun c_128 => ?_)
          · rw [if_pos c_128] at E2
            refine r_iconst (v := 1) C dX0_findOne_145 (by decide) ?_
            refine r_goto (tgt := 150) C dX0_findOne_146 (by decide) ?_
            refine r_istore (i := 5) C dX0_findOne_150 (Nat.le_of_ble_eq_true rfl) ?_
            exact fone1 C (by omega) hE0 hP hp E2 (Nat.le_refl _)
          · rw [if_neg c_128] at E2
            refine r_iload (i := 5) C dX0_findOne_131 rfl ?_
            refine r_if_eq (tgt := 149) C dX0_findOne_133 (by decide) (fun c_133 => ?_) (fun c_133 => ?_)
            · rw [if_pos c_133] at E2
              refine r_iconst (v := 0) C dX0_findOne_149 (by decide) ?_
              refine r_istore (i := 5) C dX0_findOne_150 (Nat.le_of_ble_eq_true rfl) ?_
              exact fone1 C (by omega) hE0 hP hp E2 (Nat.le_refl _)
            · rw [if_neg c_133] at E2
              refine r_aload (i := 4) C dX0_findOne_136 rfl (by first | rfl | exact isR_rf _) ?_
              refine r_getI C f_X0_75 dX0_findOne_138 rfl (by assumption) ?_
              refine r_iconst (v := 1) C dX0_findOne_141 (by decide) ?_
              refine r_ic_eq (tgt := 149) C dX0_findOne_142 (by decide) (fun c_142 => ?_) (fun c_142 => ?_)
              · rw [if_pos c_142] at E2
                refine r_iconst (v := 0) C dX0_findOne_149 (by decide) ?_
                refine r_istore (i := 5) C dX0_findOne_150 (Nat.le_of_ble_eq_true rfl) ?_
                exact fone1 C (by omega) hE0 hP hp E2 (Nat.le_refl _)
              · rw [if_neg c_142] at E2
                refine r_iconst (v := 1) C dX0_findOne_145 (by decide) ?_
                refine r_goto (tgt := 150) C dX0_findOne_146 (by decide) ?_
                refine r_istore (i := 5) C dX0_findOne_150 (Nat.le_of_ble_eq_true rfl) ?_
                exact fone1 C (by omega) hE0 hP hp E2 (Nat.le_refl _)
        refine r_astore (i := 4) C dX0_findOne_37 (Nat.le_of_ble_eq_true rfl) (by first | rfl | exact isR_rf _) ?_
        refine r_iload_n (i := 2) C dX0_findOne_39 rfl rfl ?_
        refine r_callSs C s_X0_99 (c_isInherited _ _) dX0_findOne_40 (As := [_]) rfl rfl rfl (by first | exact Nat.le_refl _ | exact Nat.le_of_ble_eq_true rfl | omega) (Nat.le_of_ble_eq_true rfl) (by first | exact Nat.le_refl _ | exact Nat.le_of_ble_eq_true rfl | omega) (by first | exact Nat.le_refl _ | exact Nat.le_of_ble_eq_true rfl | omega) ?_
        refine r_istore (i := 5) C dX0_findOne_43 (Nat.le_of_ble_eq_true rfl) ?_
        refine r_aload_n (i := 3) C dX0_findOne_45 rfl rfl (by first | rfl | exact isR_rf _) ?_
        refine r_ifnull (o := some r) (tgt := 152) C dX0_findOne_46 (by decide) (fun q => nomatch q) (fun _ _ => ?_)
        refine r_aload (i := 4) C dX0_findOne_49 rfl (by first | rfl | exact isR_rf _) ?_
        refine r_ifnull (o := some d) (tgt := 152) C dX0_findOne_51 (by decide) (fun q => nomatch q) (fun _ _ => ?_)
        refine r_aload (i := 4) C dX0_findOne_54 rfl (by first | rfl | exact isR_rf _) ?_
        refine r_getI C f_X0_75 dX0_findOne_56 rfl (by assumption) ?_
        refine r_iconst (v := 4) C dX0_findOne_59 (by decide) ?_
        refine r_ic_ne (tgt := 81) C dX0_findOne_60 (by decide) (fun c_60 => ?_) (fun c_60 => ?_)
        · rw [if_neg c_60] at E
          refine r_aload (i := 4) C dX0_findOne_81 rfl (by first | rfl | exact isR_rf _) ?_
          refine r_getI C f_X0_75 dX0_findOne_83 rfl (by assumption) ?_
          refine r_iconst (v := 5) C dX0_findOne_86 (by decide) ?_
          refine r_ic_ne (tgt := 123) C dX0_findOne_87 (by decide) (fun c_87 => ?_) (fun c_87 => ?_)
          · rw [if_neg c_87] at E
            exact hgo E _
          · rw [if_pos c_87] at E
            obtain ⟨w, hw1, hw2⟩ := hV r d hr hd c_87
            rw [hw2, nI_clamp (by omega)] at E
            refine r_aload (i := 4) C dX0_findOne_90 rfl (by first | rfl | exact isR_rf _) ?_
            refine r_iload_n (i := 2) C dX0_findOne_92 rfl rfl ?_
            refine r_aload_n (i := 1) C dX0_findOne_93 rfl rfl (by first | rfl | exact isR_rf _) ?_
            refine r_getR C f_X0_59 dX0_findOne_94 rfl (by assumption) ?_
            rw [hfr]
            refine r_callVs C v_X0_108 (c_numberBV _ _ hkd (Nat.le_of_lt hp) hL hw1 hw2) dX0_findOne_97 (by assumption) (ci := 2) (by decide) rfl rfl (As := [_, _]) rfl rfl rfl (by first | exact Nat.le_refl _ | exact Nat.le_of_ble_eq_true rfl | omega) (Nat.le_of_ble_eq_true rfl) (by first | exact Nat.le_refl _ | exact Nat.le_of_ble_eq_true rfl | omega) (by first | exact Nat.le_refl _ | exact Nat.le_of_ble_eq_true rfl | omega) ?_
            refine r_istore (i := 6) C dX0_findOne_100 (Nat.le_of_ble_eq_true rfl) ?_
            refine r_iload (i := 6) C dX0_findOne_102 rfl ?_
            refine r_iconst (v := (-1)) C dX0_findOne_104 (by decide) ?_
            refine r_ic_eq (tgt := 123) C dX0_findOne_105 (by decide) (fun c_105 => ?_) (fun c_105 => ?_)
            · rw [if_pos c_105] at E
              exact hgo E _
            · rw [if_neg c_105] at E
              refine r_aload_n (i := 1) C dX0_findOne_108 rfl rfl (by first | rfl | exact isR_rf _) ?_
              refine r_getR C f_X0_59 dX0_findOne_109 rfl (by assumption) ?_
              rw [hfr]
              refine r_iload_n (i := 2) C dX0_findOne_112 rfl rfl ?_
              refine r_iload (i := 6) C dX0_findOne_113 rfl ?_
              refine r_aload_n (i := 3) C dX0_findOne_115 rfl rfl (by first | rfl | exact isR_rf _) ?_
              refine r_getI C f_X0_107 dX0_findOne_116 rfl (by assumption) ?_
              refine r_callVn C v_X0_65 (c_put _ _ hL hp) dX0_findOne_119 (by assumption) (ci := 4) (by decide) rfl rfl (As := [_, _, _]) rfl rfl rfl (by first | exact Nat.le_refl _ | exact Nat.le_of_ble_eq_true rfl | omega) (Nat.le_of_ble_eq_true rfl) (by first | exact Nat.le_refl _ | exact Nat.le_of_ble_eq_true rfl | omega) (by first | exact Nat.le_refl _ | exact Nat.le_of_ble_eq_true rfl | omega) ?_
              exact r_vret C E dX0_findOne_122 rfl (Nat.le_refl _) (Nat.le_refl _)
        · rw [if_pos c_60] at E
          refine r_aload_n (i := 1) C dX0_findOne_63 rfl rfl (by first | rfl | exact isR_rf _) ?_
          refine r_getR C f_X0_59 dX0_findOne_64 rfl (by assumption) ?_
          rw [hfr]
          refine r_iload_n (i := 2) C dX0_findOne_67 rfl rfl ?_
          refine r_aload (i := 4) C dX0_findOne_68 rfl (by first | rfl | exact isR_rf _) ?_
          refine r_getI C f_X0_104 dX0_findOne_70 rfl (by assumption) ?_
          refine r_aload_n (i := 3) C dX0_findOne_73 rfl rfl (by first | rfl | exact isR_rf _) ?_
          refine r_getI C f_X0_107 dX0_findOne_74 rfl (by assumption) ?_
          refine r_callVn C v_X0_65 (c_put _ _ hL hp) dX0_findOne_77 (by assumption) (ci := 4) (by decide) rfl rfl (As := [_, _, _]) rfl rfl rfl (by first | exact Nat.le_refl _ | exact Nat.le_of_ble_eq_true rfl | omega) (Nat.le_of_ble_eq_true rfl) (by first | exact Nat.le_refl _ | exact Nat.le_of_ble_eq_true rfl | omega) (by first | exact Nat.le_refl _ | exact Nat.le_of_ble_eq_true rfl | omega) ?_
          exact r_vret C E dX0_findOne_80 rfl (Nat.le_refl _) (Nat.le_refl _)
