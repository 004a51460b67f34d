/-! ===== Cascade: which rule decides a property ===== -/
def sAf (h : Hp) (a : Nat) (g : Nat → Int32) : Hp := (hN h, hK h, hL h, hI h, hR h, va_up (hA h) a g, hQ h, hW h)
/-- the rows deciding and passed written -/
def stD (h : Hp) (K P : Nat) (κ : Nat → Option Nat) (π : Nat → Int32) : Hp := sAf (sQf h K κ) P π
theorem va_up2 {α : Type} (f : Nat → α) (a : Nat) (x y : α) : va_up (va_up f a x) a y = va_up f a y := funext fun j => by
  by_cases z : j = a
  · rw [z, va_up_self, va_up_self]
  · rw [va_up_ne _ _ z, va_up_ne _ _ z, va_up_ne _ _ z]
theorem stD_Q (h : Hp) (K P : Nat) (κ : Nat → Option Nat) (π : Nat → Int32) : hQ (stD h K P κ π) K = κ := va_up_self _ _ _
theorem stD_A (h : Hp) (K P : Nat) (κ : Nat → Option Nat) (π : Nat → Int32) : hA (stD h K P κ π) P = π := va_up_self _ _ _
theorem stD_Qn {h : Hp} {K P : Nat} {κ : Nat → Option Nat} {π : Nat → Int32} {b : Nat} (q : b ≠ K) : hQ (stD h K P κ π) b = hQ h b := va_up_ne _ _ q
theorem stD_An {h : Hp} {K P : Nat} {κ : Nat → Option Nat} {π : Nat → Int32} {b : Nat} (q : b ≠ P) : hA (stD h K P κ π) b = hA h b := va_up_ne _ _ q
theorem stD_sQ {h : Hp} {K P : Nat} {κ : Nat → Option Nat} {π : Nat → Int32} {j : Nat} {v : Option Nat} : sQ (stD h K P κ π) K j v = stD h K P (va_up κ j v) π := by
  show (hN h, hK h, hL h, hI h, hR h, va_up (hA h) P π, va_up (va_up (hQ h) K κ) K (va_up (hQ (stD h K P κ π) K) j v), hW h) = _
  rw [stD_Q, va_up2]
  rfl
theorem stD_sA {h : Hp} {K P : Nat} {κ : Nat → Option Nat} {π : Nat → Int32} {j : Nat} {v : Int32} : sA (stD h K P κ π) P j v = stD h K P κ (va_up π j v) := by
  show (hN h, hK h, hL h, hI h, hR h, va_up (va_up (hA h) P π) P (va_up (hA (stD h K P κ π) P) j v), va_up (hQ h) K κ, hW h) = _
  rw [stD_A, va_up2]
  rfl
/-- f below n, g from there on -/
def upto {α : Type} (n : Nat) (f g : Nat → α) : Nat → α := fun p => if p < n then f p else g p
theorem upto_0 {α : Type} (f g : Nat → α) : upto 0 f g = g := funext fun p => if_neg (Nat.not_lt_zero p)
theorem upto_at {α : Type} (n : Nat) (f g : Nat → α) : upto n f g n = g n := if_neg (Nat.lt_irrefl n)
theorem upto_s {α : Type} (n : Nat) (f g : Nat → α) : va_up (upto n f g) n (f n) = upto (n + 1) f g := funext fun p => by
  by_cases z : p = n
  · rw [z, va_up_self]
    exact (if_pos (Nat.lt_succ_self n)).symm
  · rw [va_up_ne _ _ z]
    unfold upto
    by_cases y : p < n
    · rw [if_pos y, if_pos (by omega)]
    · rw [if_neg y, if_neg (by omega)]
theorem upto_e {α : Type} {n : Nat} {f g : Nat → α} (e : f n = g n) : upto (n + 1) f g = upto n f g := funext fun p => by
  unfold upto
  by_cases z : p = n
  · rw [z, if_pos (Nat.lt_succ_self n), if_neg (Nat.lt_irrefl n), e]
  · by_cases y : p < n
    · rw [if_pos y, if_pos (by omega)]
    · rw [if_neg y, if_neg (by omega)]
/-- what a rule, weaker than all before, does to one property: who decides, and the group that is passed over -/
def ldA (h : Hp) (r D p : Nat) (k : Option Nat) (g : Int32) : Option Nat × Int32 := match k with
  | some b => (some b, g)
  | none => match hQ h D p with
    | none => (none, g)
    | some d => if hI h fU_group r = g then (none, g) else if hI h fD_kind d = 3 then (none, hI h fU_group r) else (some r, g)
theorem c_letDecide (l : Launch) (G : Gl) {h : Hp} {c K P r D : Nat} {κ : Nat → Option Nat} {π : Nat → Int32} (hk : hK h c = 1) (hK1 : hR h fC_deciding c = some K) (hkK : hK h K = 104) (hlK : hL h K = 14) (hP1 : hR h fC_passed c = some P) (hkP : hK h P = 100) (hlP : hL h P = 14) (hU : UD h r D) (hd2 : ∀ p d, p < 14 → hQ h D p = some d → hK h d = 2) (hDK : D ≠ K) :
    MRw l G yX0_letDecide (.code yX0_letDecide cX0_letDecide 4 none) 1 0 0 [.ref c, .ref r] (stD h K P κ π) (.inl (none, stD h K P (upto 14 (fun p => (ldA h r D p (κ p) (π p)).1) κ) (upto 14 (fun p => (ldA h r D p (κ p) (π p)).2) π))) := by
  refine mr_of (by decide +kernel) (Nat.le_of_ble_eq_true rfl) (ct2 (by first | rfl | exact isR_cat (isR_rf _)) (by first | rfl | exact isR_cat (isR_rf _))) (fun X hG hl C E => ?_)
  subst hG hl
  have hkr := hU.1
  have hloop : ∀ (m p : Nat), p + m = 14 → ∀ v3, wr X 0 0 2 [.ref c, .ref r, .int (nI p), v3] [] (stD h K P (upto p (fun p => (ldA h r D p (κ p) (π p)).1) κ) (upto p (fun p => (ldA h r D p (κ p) (π p)).2) π)) := by
    intro m
    induction m with
    | zero =>
      intro p hp v3
      have : p = 14 := by omega
      subst this
      obtain ⟨κ9, e1⟩ : ∃ z, z = upto 14 (fun p => (ldA h r D p (κ p) (π p)).1) κ := ⟨_, rfl⟩
      obtain ⟨π9, e2⟩ : ∃ z, z = upto 14 (fun p => (ldA h r D p (κ p) (π p)).2) π := ⟨_, rfl⟩
      rw [← e1, ← e2] at E ⊢
      have hk9 : hK (stD h K P κ9 π9) c = 1 := hk
      refine r_iload_n (i := 2) C dX0_letDecide_2 rfl rfl ?_
      refine r_aload_n (i := 0) C dX0_letDecide_3 rfl rfl (by first | rfl | exact isR_rf _) ?_
      refine r_getR C f_X0_20 dX0_letDecide_4 rfl (by assumption) ?_
      rw [show hR (stD h K P κ9 π9) fC_deciding c = some K from hK1]
      refine r_alen (a := K) C dX0_letDecide_7 (show hK (stD h K P κ9 π9) K = 104 from hkK) (by decide) ?_
      rw [show hL (stD h K P κ9 π9) K = 14 from hlK]
      refine rn_ic_ge C 14 14 rfl rfl (by decide) (by decide) (tgt := 90) dX0_letDecide_8 (by decide) (fun _ => ?_) (fun q => absurd q (by omega))
      exact r_vret C E dX0_letDecide_90 rfl (by first | exact Nat.le_refl _ | exact Nat.le_of_ble_eq_true rfl | omega) (by first | exact Nat.le_refl _ | exact Nat.le_of_ble_eq_true rfl | omega)
    | succ m ih =>
      intro p hp v3
      have ih' := ih (p + 1) (by omega)
      rw [← upto_s p (fun p => (ldA h r D p (κ p) (π p)).1), ← upto_s p (fun p => (ldA h r D p (κ p) (π p)).2)] at ih'
      obtain ⟨κ9, e1⟩ : ∃ z, z = upto p (fun p => (ldA h r D p (κ p) (π p)).1) κ := ⟨_, rfl⟩
      obtain ⟨π9, e2⟩ : ∃ z, z = upto p (fun p => (ldA h r D p (κ p) (π p)).2) π := ⟨_, rfl⟩
      have k9 : κ9 p = κ p := by rw [e1, upto_at]
      have p9 : π9 p = π p := by rw [e2, upto_at]
      rw [← e1, ← e2] at ih' ⊢
      rw [← k9, ← p9] at ih'
      have hk9 : hK (stD h K P κ9 π9) c = 1 := hk
      have hkr9 : hK (stD h K P κ9 π9) r = 6 := hkr
      have hU9 : UD (stD h K P κ9 π9) r D := hU
      have hkP9 : hK (stD h K P κ9 π9) P = 100 := hkP
      have eK : hR (stD h K P κ9 π9) fC_deciding c = some K := hK1
      have eP : hR (stD h K P κ9 π9) fC_passed c = some P := hP1
      have hid1 : va_up κ9 p (κ9 p) = κ9 := funext fun j => by
        by_cases z : j = p
        · rw [z, va_up_self]
        · rw [va_up_ne _ _ z]
      have hid2 : va_up π9 p (π9 p) = π9 := funext fun j => by
        by_cases z : j = p
        · rw [z, va_up_self]
        · rw [va_up_ne _ _ z]
      have hnext : ∀ v3 κ' π', κ' = va_up κ9 p (ldA h r D p (κ9 p) (π9 p)).1 → π' = va_up π9 p (ldA h r D p (κ9 p) (π9 p)).2 → wr X 0 0 84 [.ref c, .ref r, .int (nI p), v3] [] (stD h K P κ' π') := by
        intro v3 κ' π' q1 q2
        rw [q1, q2]
        refine r_iinc1 (i := 2) C dX0_letDecide_84 rfl ?_
        rw [nI_1]
        refine r_goto (tgt := 2) C dX0_letDecide_87 (by decide) ?_
        exact ih' _
      refine r_iload_n (i := 2) C dX0_letDecide_2 rfl rfl ?_
      refine r_aload_n (i := 0) C dX0_letDecide_3 rfl rfl (by first | rfl | exact isR_rf _) ?_
      refine r_getR C f_X0_20 dX0_letDecide_4 rfl (by assumption) ?_
      rw [eK]
      refine r_alen (a := K) C dX0_letDecide_7 (show hK (stD h K P κ9 π9) K = 104 from hkK) (by decide) ?_
      rw [show hL (stD h K P κ9 π9) K = 14 from hlK]
      refine rn_ic_ge C p 14 rfl rfl (by omega) (by decide) (tgt := 90) dX0_letDecide_8 (by decide) (fun q => absurd q (by omega)) (fun _ => ?_)
      refine r_iload_n (i := 2) C dX0_letDecide_11 rfl rfl ?_
      refine r_aload_n (i := 0) C dX0_letDecide_12 rfl rfl (by first | rfl | exact isR_rf _) ?_
      refine r_getR C f_X0_24 dX0_letDecide_13 rfl (by assumption) ?_
      rw [eP]
      refine r_alen (a := P) C dX0_letDecide_16 hkP9 (by decide) ?_
      rw [show hL (stD h K P κ9 π9) P = 14 from hlP]
      refine rn_ic_ge C p 14 rfl rfl (by omega) (by decide) (tgt := 90) dX0_letDecide_17 (by decide) (fun q => absurd q (by omega)) (fun _ => ?_)
      refine r_aload_n (i := 0) C dX0_letDecide_20 rfl rfl (by first | rfl | exact isR_rf _) ?_
      refine r_getR C f_X0_20 dX0_letDecide_21 rfl (by assumption) ?_
      rw [eK]
      refine r_iload_n (i := 2) C dX0_letDecide_24 rfl rfl ?_
      refine r_aald (a := K) (q := 1) (j := p) C dX0_letDecide_25 (show hK (stD h K P κ9 π9) K = 103 + 1 from hkK) (by decide) rfl (by rw [show hL (stD h K P κ9 π9) K = 14 from hlK]; omega) ?_
      rw [stD_Q]
      cases hκ : κ9 p with
      | some b =>
        have hl : ldA h r D p (κ9 p) (π9 p) = (κ9 p, π9 p) := by rw [hκ]; rfl
        refine r_ifnonnull (o := some b) (tgt := 37) C dX0_letDecide_26 (by decide) (fun _ _ => ?_) (fun q => nomatch q)
        refine r_null C dX0_letDecide_37 ?_
        refine r_astore_n (i := 3) C dX0_letDecide_38 rfl (Nat.le_of_ble_eq_true rfl) (by first | rfl | exact isR_rf _) ?_
        refine r_aload_n (i := 3) C dX0_letDecide_39 rfl rfl (by first | rfl | exact isR_rf _) ?_
        refine r_ifnull (o := none) (tgt := 84) C dX0_letDecide_40 (by decide) (fun _ => ?_) (fun _ q => nomatch q)
        exact hnext _ _ _ (by rw [hl]; exact hid1.symm) (by rw [hl]; exact hid2.symm)
      | none =>
        refine r_ifnonnull (o := none) (tgt := 37) C dX0_letDecide_26 (by decide) (fun _ q => nomatch q) (fun _ => ?_)
        refine r_aload_n (i := 1) C dX0_letDecide_29 rfl rfl (by first | rfl | exact isR_rf _) ?_
        refine r_iload_n (i := 2) C dX0_letDecide_30 rfl rfl ?_
        refine r_callVs C v_X0_71 (c_declarationOf _ _ hU9 (by omega)) dX0_letDecide_31 (by assumption) (ci := 6) (by decide) rfl rfl (As := [_]) rfl rfl rfl (by first | exact Nat.le_refl _ | exact Nat.le_of_ble_eq_true rfl | omega) (Nat.le_of_ble_eq_true rfl) (by first | exact Nat.le_refl _ | exact Nat.le_of_ble_eq_true rfl | omega) (by first | exact Nat.le_refl _ | exact Nat.le_of_ble_eq_true rfl | omega) ?_
        rw [stD_Qn hDK]
        cases hd : hQ h D p with
        | none =>
          have hl : ldA h r D p (κ9 p) (π9 p) = (κ9 p, π9 p) := by
            rw [hκ]
            unfold ldA
            rw [hd]
          refine r_goto (tgt := 38) C dX0_letDecide_34 (by decide) ?_
          refine r_astore_n (i := 3) C dX0_letDecide_38 rfl (Nat.le_of_ble_eq_true rfl) (by first | rfl | exact isR_rf _) ?_
          refine r_aload_n (i := 3) C dX0_letDecide_39 rfl rfl (by first | rfl | exact isR_rf _) ?_
          refine r_ifnull (o := none) (tgt := 84) C dX0_letDecide_40 (by decide) (fun _ => ?_) (fun _ q => nomatch q)
          exact hnext _ _ _ (by rw [hl]; exact hid1.symm) (by rw [hl]; exact hid2.symm)
        | some d =>
          have hkd : hK (stD h K P κ9 π9) d = 2 := hd2 p d (by omega) hd
          have hl : ldA h r D p (κ9 p) (π9 p) = if hI h fU_group r = π9 p then (none, π9 p) else if hI h fD_kind d = 3 then (none, hI h fU_group r) else (some r, π9 p) := by
            rw [hκ]
            unfold ldA
            rw [hd]
          refine r_goto (tgt := 38) C dX0_letDecide_34 (by decide) ?_
          refine r_astore_n (i := 3) C dX0_letDecide_38 rfl (Nat.le_of_ble_eq_true rfl) (by first | rfl | exact isR_rf _) ?_
          refine r_aload_n (i := 3) C dX0_letDecide_39 rfl rfl (by first | rfl | exact isR_rf _) ?_
          refine r_ifnull (o := some d) (tgt := 84) C dX0_letDecide_40 (by decide) (fun q => nomatch q) (fun _ _ => ?_)
          refine r_aload_n (i := 1) C dX0_letDecide_43 rfl rfl (by first | rfl | exact isR_rf _) ?_
          refine r_getI C f_X0_96 dX0_letDecide_44 rfl (by assumption) ?_
          refine r_aload_n (i := 0) C dX0_letDecide_47 rfl rfl (by first | rfl | exact isR_rf _) ?_
          refine r_getR C f_X0_24 dX0_letDecide_48 rfl (by assumption) ?_
          rw [eP]
          refine r_iload_n (i := 2) C dX0_letDecide_51 rfl rfl ?_
          refine r_iald (a := P) (j := p) C dX0_letDecide_52 hkP9 rfl (by rw [show hL (stD h K P κ9 π9) P = 14 from hlP]; omega) ?_
          rw [stD_A]
          refine r_ic_eq (tgt := 84) C dX0_letDecide_53 (by decide) (fun c_53 => ?_) (fun c_53 => ?_)
          · rw [if_pos (show hI h fU_group r = π9 p from c_53)] at hl
            exact hnext _ _ _ (by rw [hl, ← hκ]; exact hid1.symm) (by rw [hl]; exact hid2.symm)
          · rw [if_neg (show ¬ hI h fU_group r = π9 p from c_53)] at hl
            refine r_aload_n (i := 3) C dX0_letDecide_56 rfl rfl (by first | rfl | exact isR_rf _) ?_
            refine r_getI C f_X0_75 dX0_letDecide_57 rfl (by assumption) ?_
            refine r_iconst (v := 3) C dX0_letDecide_60 (by decide) ?_
            refine r_ic_ne (tgt := 77) C dX0_letDecide_61 (by decide) (fun c_61 => ?_) (fun c_61 => ?_)
            · rw [if_neg (show ¬ hI h fD_kind d = 3 from c_61)] at hl
              refine r_aload_n (i := 0) C dX0_letDecide_77 rfl rfl (by first | rfl | exact isR_rf _) ?_
              refine r_getR C f_X0_20 dX0_letDecide_78 rfl (by assumption) ?_
              rw [eK]
              refine r_iload_n (i := 2) C dX0_letDecide_81 rfl rfl ?_
              refine r_aload_n (i := 1) C dX0_letDecide_82 rfl rfl (by first | rfl | exact isR_rf _) ?_
              refine r_aastX (a := K) (q := 1) (j := p) C dX0_letDecide_83 (show hK (stD h K P κ9 π9) K = 103 + 1 from hkK) (by decide) rfl (by rw [show hL (stD h K P κ9 π9) K = 14 from hlK]; omega) hkr9 (by decide) rfl rfl ?_
              rw [stD_sQ]
              exact hnext _ _ _ (by rw [hl]) (by rw [hl]; exact hid2.symm)
            · rw [if_pos (show hI h fD_kind d = 3 from c_61)] at hl
              refine r_aload_n (i := 0) C dX0_letDecide_64 rfl rfl (by first | rfl | exact isR_rf _) ?_
              refine r_getR C f_X0_24 dX0_letDecide_65 rfl (by assumption) ?_
              rw [eP]
              refine r_iload_n (i := 2) C dX0_letDecide_68 rfl rfl ?_
              refine r_aload_n (i := 1) C dX0_letDecide_69 rfl rfl (by first | rfl | exact isR_rf _) ?_
              refine r_getI C f_X0_96 dX0_letDecide_70 rfl (by assumption) ?_
              refine r_iast (a := P) (j := p) C dX0_letDecide_73 hkP9 rfl (by rw [show hL (stD h K P κ9 π9) P = 14 from hlP]; omega) ?_
              rw [stD_sA]
              refine r_goto (tgt := 84) C dX0_letDecide_74 (by decide) ?_
              exact hnext _ _ _ (by rw [hl, ← hκ]; exact hid1.symm) (by rw [hl]; rfl)
  refine r_iconst (v := 0) C dX0_letDecide_0 (by decide) ?_
  refine r_istore_n (i := 2) C dX0_letDecide_1 rfl (Nat.le_of_ble_eq_true rfl) ?_
  have := hloop 14 0 rfl (.long 0)
  rw [upto_0, upto_0] at this
  exact this
