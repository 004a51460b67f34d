/-! ===== Cascade: rings of variables ===== -/
/-- none is -1 -/
def eo : Option Nat → Int32
  | none => -1
  | some w => nI w
/-- whether v comes within n steps behind a -/
def rgA (f : Nat → Option Nat) (v : Nat) : Nat → Nat → Bool
  | 0, _ => false
  | n + 1, a => match f a with
    | none => false
    | some w => if w = v then true else rgA f v n w
theorem c_isInRing (l : Launch) (G : Gl) {h : Hp} {c N v : Nat} {f : Nat → Option Nat} (hk : hK h c = 1) (hN1 : hR h fC_needed c = some N) (hkN : hK h N = 100) (hlN : hL h N = 4) (hv : v < 4) (hf : ∀ a, a < 4 → hA h N a = eo (f a)) (hw : ∀ a w, a < 4 → f a = some w → w < 4) :
    MRw l G yX0_isInRing (.code yX0_isInRing cX0_isInRing 4 (Option.some Jvm.ClassFile.FieldType.boolean)) 0 0 0 [.ref c, .int (nI v)] h (.inl (some (.int (if rgA f v 4 v = true then 1 else 0)), h)) := by
  refine mr_of (by decide +kernel) (Nat.le_of_ble_eq_true rfl) (ct2 (by first | rfl | exact isR_cat (isR_rf _)) (by first | rfl | exact isR_cat (isR_rf _))) (fun X hG hl C E => ?_)
  subst hG hl
  have hF : rgA f v 4 v = false → ∀ x y, wr X 0 0 42 [.ref c, .int (nI v), x, y] [] h := by
    intro hz x y
    rw [if_neg (by rw [hz]; exact fun z => nomatch z)] at E
    refine r_iconst (v := 0) C dX0_isInRing_42 (by decide) ?_
    exact r_iret C E dX0_isInRing_43 rfl (bo_nar (by first | exact Or.inl rfl | exact Or.inr rfl | assumption)).1 (by first | exact Nat.le_refl _ | exact Nat.le_of_ble_eq_true rfl | omega) (by first | exact Nat.le_refl _ | exact Nat.le_of_ble_eq_true rfl | omega)
  have hloop : ∀ (m s a : Nat), s + m = 4 → a < 4 → rgA f v 4 v = rgA f v m a → wr X 0 0 4 [.ref c, .int (nI v), .int (nI a), .int (nI s)] [] h := by
    intro m
    induction m with
    | zero =>
      intro s a hs ha heq
      have : s = 4 := by omega
      subst this
      refine r_iload_n (i := 3) C dX0_isInRing_4 rfl rfl ?_
      refine r_iconst (v := 4) C dX0_isInRing_5 (by decide) ?_
      refine rn_ic_ge C 4 4 rfl rfl (by decide) (by decide) (tgt := 42) dX0_isInRing_6 (by decide) (fun _ => hF heq _ _) (fun q => absurd q (by omega))
    | succ m ih =>
      intro s a hs ha heq
      refine r_iload_n (i := 3) C dX0_isInRing_4 rfl rfl ?_
      refine r_iconst (v := 4) C dX0_isInRing_5 (by decide) ?_
      refine rn_ic_ge C s 4 rfl rfl (by omega) (by decide) (tgt := 42) dX0_isInRing_6 (by decide) (fun q => absurd q (by omega)) (fun _ => ?_)
      refine r_iload_n (i := 2) C dX0_isInRing_9 rfl rfl ?_
      refine r_if_lt (tgt := 42) C dX0_isInRing_10 (by decide) (fun c_10 => ?_) (fun c_10 => ?_)
      · exact absurd c_10 (nI_pos (by omega))
      · refine r_iload_n (i := 2) C dX0_isInRing_13 rfl rfl ?_
        refine r_aload_n (i := 0) C dX0_isInRing_14 rfl rfl (by first | rfl | exact isR_rf _) ?_
        refine r_getR C f_X0_28 dX0_isInRing_15 rfl (by assumption) ?_
        rw [hN1]
        refine r_alen (a := N) C dX0_isInRing_18 hkN (by decide) ?_
        rw [hlN]
        refine rn_ic_ge C a 4 rfl rfl (by omega) (by decide) (tgt := 42) dX0_isInRing_19 (by decide) (fun q => absurd q (by omega)) (fun _ => ?_)
        refine r_aload_n (i := 0) C dX0_isInRing_22 rfl rfl (by first | rfl | exact isR_rf _) ?_
        refine r_getR C f_X0_28 dX0_isInRing_23 rfl (by assumption) ?_
        rw [hN1]
        refine r_iload_n (i := 2) C dX0_isInRing_26 rfl rfl ?_
        refine r_iald (a := N) C dX0_isInRing_27 hkN rfl (by omega) ?_
        rw [hf a ha]
        refine r_istore_n (i := 2) C dX0_isInRing_28 rfl (Nat.le_of_ble_eq_true rfl) ?_
        refine r_iload_n (i := 2) C dX0_isInRing_29 rfl rfl ?_
        refine r_iload_n (i := 1) C dX0_isInRing_30 rfl rfl ?_
        have hun : rgA f v (m + 1) a = match f a with
          | none => false
          | some w => if w = v then true else rgA f v m w := rfl
        cases hfa : f a with
        | none =>
          rw [hfa] at hun
          have hmv : ¬ ((-1 : Int32) = nI v) := fun z => nI_pos (n := v) (by omega) (by rw [← z]; decide)
          refine r_ic_ne (tgt := 36) C dX0_isInRing_31 (by decide) (fun _ => ?_) (fun q => absurd q hmv)
          refine r_iinc1 (i := 3) C dX0_isInRing_36 rfl ?_
          refine r_goto (tgt := 4) C dX0_isInRing_39 (by decide) ?_
          change wr X 0 0 4 [.ref c, .int (nI v), .int (-1), .int (nI s + 1)] [] h
          rw [nI_1]
          refine r_iload_n (i := 3) C dX0_isInRing_4 rfl rfl ?_
          refine r_iconst (v := 4) C dX0_isInRing_5 (by decide) ?_
          refine rn_ic_ge C (s + 1) 4 rfl rfl (by omega) (by decide) (tgt := 42) dX0_isInRing_6 (by decide) (fun _ => hF (heq.trans hun) _ _) (fun _ => ?_)
          refine r_iload_n (i := 2) C dX0_isInRing_9 rfl rfl ?_
          refine r_if_lt (tgt := 42) C dX0_isInRing_10 (by decide) (fun _ => hF (heq.trans hun) _ _) (fun q => absurd (by decide : (-1 : Int32) < 0) q)
        | some w =>
          rw [hfa] at hun
          have hw4 := hw a w ha hfa
          by_cases cw : w = v
          · have hun' : rgA f v (m + 1) a = true := hun.trans (if_pos cw)
            rw [if_pos (heq.trans hun')] at E
            refine r_ic_ne (tgt := 36) C dX0_isInRing_31 (by decide) (fun q => absurd (congrArg nI cw) q) (fun _ => ?_)
            refine r_iconst (v := 1) C dX0_isInRing_34 (by decide) ?_
            exact r_iret C E dX0_isInRing_35 rfl (bo_nar (by first | exact Or.inl rfl | exact Or.inr rfl | assumption)).1 (by first | exact Nat.le_refl _ | exact Nat.le_of_ble_eq_true rfl | omega) (by first | exact Nat.le_refl _ | exact Nat.le_of_ble_eq_true rfl | omega)
          · have hun' : rgA f v (m + 1) a = rgA f v m w := hun.trans (if_neg cw)
            refine r_ic_ne (tgt := 36) C dX0_isInRing_31 (by decide) (fun _ => ?_) (fun q => absurd ((nI_eq (by omega) (by omega)).mp q) cw)
            refine r_iinc1 (i := 3) C dX0_isInRing_36 rfl ?_
            rw [nI_1]
            refine r_goto (tgt := 4) C dX0_isInRing_39 (by decide) ?_
            exact ih (s + 1) w (by omega) hw4 (heq.trans hun')
  refine r_iload_n (i := 1) C dX0_isInRing_0 rfl rfl ?_
  refine r_istore_n (i := 2) C dX0_isInRing_1 rfl (Nat.le_of_ble_eq_true rfl) ?_
  refine r_iconst (v := 0) C dX0_isInRing_2 (by decide) ?_
  refine r_istore_n (i := 3) C dX0_isInRing_3 rfl (Nat.le_of_ble_eq_true rfl) ?_
  exact hloop 4 0 v rfl hv rfl
