/-! ===== Tree.cut, the whole; the constructor ===== -/
theorem ulA_s (h : Hp) (t : Nat) : hN (ulA h t) = hN h ∧ hK (ulA h t) = hK h ∧ hL (ulA h t) = hL h ∧ hI (ulA h t) = hI h ∧ hA (ulA h t) = hA h ∧ hQ (ulA h t) = hQ h ∧ hW (ulA h t) = hW h := by
  unfold ulA; split <;> (try split) <;> exact ⟨rfl, rfl, rfl, rfl, rfl, rfl, rfl⟩
theorem ulB_s (h : Hp) (t : Nat) : hN (ulB h t) = hN h ∧ hK (ulB h t) = hK h ∧ hL (ulB h t) = hL h ∧ hI (ulB h t) = hI h ∧ hA (ulB h t) = hA h ∧ hQ (ulB h t) = hQ h ∧ hW (ulB h t) = hW h := by
  unfold ulB; split <;> (try split) <;> exact ⟨rfl, rfl, rfl, rfl, rfl, rfl, rfl⟩
theorem ulA_R {h : Hp} {t f : Nat} (q1 : f ≠ fE_next) (q2 : f ≠ fE_first) : hR (ulA h t) f = hR h f := by
  unfold ulA; split
  · exact rR_ne q1
  · split
    · exact rR_ne q2
    · rfl
theorem ulB_R {h : Hp} {t f : Nat} (q1 : f ≠ fE_ahead) (q2 : f ≠ fE_last) : hR (ulB h t) f = hR h f := by
  unfold ulB; split
  · exact rR_ne q1
  · split
    · exact rR_ne q2
    · rfl
theorem ulA_g {h : Hp} {t : Nat} (hg : Good h) : Good (ulA h t) := by
  have c := hg.2.2.2.1
  unfold ulA; split
  · rename_i a e; exact gd_sR hg (c _ _ _ e) (fun b z => c _ _ _ z)
  · split
    · rename_i a e; exact gd_sR hg (c _ _ _ e) (fun b z => c _ _ _ z)
    · exact hg
theorem ulB_g {h : Hp} {t : Nat} (hg : Good h) : Good (ulB h t) := by
  have c := hg.2.2.2.1
  unfold ulB; split
  · rename_i a e; exact gd_sR hg (c _ _ _ e) (fun b z => c _ _ _ z)
  · split
    · rename_i a e; exact gd_sR hg (c _ _ _ e) (fun b z => c _ _ _ z)
    · exact hg
/-- the state behind unlink -/
def ulk (h : Hp) (t : Nat) : Hp := ulB (ulA h t) t
theorem ulk_s (h : Hp) (t : Nat) : hN (ulk h t) = hN h ∧ hK (ulk h t) = hK h ∧ hL (ulk h t) = hL h ∧ hI (ulk h t) = hI h ∧ hA (ulk h t) = hA h ∧ hQ (ulk h t) = hQ h ∧ hW (ulk h t) = hW h := by
  obtain ⟨a1, a2, a3, a4, a5, a6, a7⟩ := ulA_s h t
  obtain ⟨b1, b2, b3, b4, b5, b6, b7⟩ := ulB_s (ulA h t) t
  exact ⟨b1.trans a1, b2.trans a2, b3.trans a3, b4.trans a4, b5.trans a5, b6.trans a6, b7.trans a7⟩
theorem ulk_R {h : Hp} {t f : Nat} (q1 : f ≠ fE_next) (q2 : f ≠ fE_first) (q3 : f ≠ fE_ahead) (q4 : f ≠ fE_last) : hR (ulk h t) f = hR h f :=
  (ulB_R q3 q4).trans (ulA_R q1 q2)
theorem c_cut (l : Launch) (G : Gl) {h : Hp} {t R I dR dI top : Nat} {es is : List Nat} {U : Nat → List Nat} {wi : Nat → Bool} (hg : Good h) (hkt : hK h t = 8) (hR1 : hR h fT_row t = some R) (hI1 : hR h fT_idle t = some I) (hRI : R ≠ I) (hAR : AL h R dR es) (hAI : AL h I dI is) (hdd : dR = dI → dR = 4) (hl : es.length ≤ 24) (hli : is.length + es.length ≤ 39)
    (hes : ∀ x, x ∈ es → hK h x = 3 ∧ LN fE_parent h (some x) (U x)) (his : ∀ x, x ∈ is → hK h x = 3) (hwi : ∀ x, x ∈ es → (wi x = true ↔ top ∈ U x))
    (hkp : hK h top = 3) (ha : ∀ a, hR h fE_ahead top = some a → hK h a = 3 ∧ a ≠ top) (hn : ∀ a, hR h fE_next top = some a → hK h a = 3) (hp : ∀ a, hR h fE_parent top = some a → hK h a = 3) :
    ∃ (h2 : Hp) (d2 : Nat), MRw l G yX10_cut (.code yX10_cut cX10_cut 5 (Option.some Jvm.ClassFile.FieldType.int)) 7 24 1440 [.ref t, .ref top] h (.inl (some (.int (nI (es.filter wi).length)), h2)) ∧ Good h2 ∧ LFs (ulk h top) h2 (fun b => b = R ∨ b = I) (fun b => b = dR ∨ b = dI) ∧ (d2 = dI ∨ hN h ≤ d2) ∧ (dR = d2 → dR = 4) ∧
      AL h2 R dR (es.filter fun x => !(wi x)) ∧ AL h2 I d2 (is ++ (es.filter wi).reverse) := by
  obtain ⟨s1, s2, s3, s4, s5, s6, s7⟩ := ulk_s h top
  have g0 : Good (ulk h top) := ulB_g (ulA_g hg)
  have K0 : KP h (ulk h top) := ⟨by rw [s1]; exact Nat.le_refl _, fun a _ => ⟨by rw [s2], by rw [s3]⟩⟩
  have rf : ∀ f, f ≠ fE_next → f ≠ fE_first → f ≠ fE_ahead → f ≠ fE_last → hR (ulk h top) f = hR h f := fun f q1 q2 q3 q4 => ulk_R q1 q2 q3 q4
  have AR0 : AL (ulk h top) R dR es := AL_KP hg K0 (by rw [s4]) (by rw [rf _ (by decide) (by decide) (by decide) (by decide)]) (fun _ => by rw [s6]) hAR
  have AI0 : AL (ulk h top) I dI is := AL_KP hg K0 (by rw [s4]) (by rw [rf _ (by decide) (by decide) (by decide) (by decide)]) (fun _ => by rw [s6]) hAI
  have hdN : dR < hN (ulk h top) := by
    rw [s1]
    rcases hAR.2.2.2.2 with ⟨q, -⟩ | ⟨-, q, -⟩
    · have := hg.1; omega
    · exact (kind_in hg q (by decide)).2
  obtain ⟨h2, d2, c, g2, L2, E1, E2, AR2, AI2, hc, W⟩ := cut1 l G (wi := wi) g0 (by rw [s2]; exact hkt) (by rw [rf _ (by decide) (by decide) (by decide) (by decide)]; exact hR1) (by rw [rf _ (by decide) (by decide) (by decide) (by decide)]; exact hI1) hRI hdN hl
    (fun x hx => ⟨by rw [s2]; exact (hes x hx).1, KP_LN hg K0 (rf _ (by decide) (by decide) (by decide) (by decide)) (hes x hx).2⟩) (kind_in hg hkp (by decide)).1 hwi es.length (ulk h top) dI 0 es is (Nat.le_refl _) g0 (LFs_r _ _ _) (Or.inl rfl) hdd AR0 AI0 (by simp) hli (fun x hx => by rw [s2]; exact his x hx)
  rw [List.take_length] at AI2 W
  rw [s1] at E1
  refine ⟨h2, d2, ?_, g2, L2, E1, E2, AR2, AI2⟩
  have hkR := AR0.1
  have hszR := AR0.2.1
  have M0 := c_unlink l G hkp ha hn hp
  rw [show ulB (ulA h top) top = ulk h top from rfl] at M0
  obtain ⟨h0, e0⟩ : ∃ z, z = ulk h top := ⟨_, rfl⟩
  rw [← e0] at M0 W hkR hszR
  have hkt0 : hK h0 t = 8 := by rw [e0, s2]; exact hkt
  have hR0 : hR h0 fT_row t = some R := by rw [e0, rf _ (by decide) (by decide) (by decide) (by decide)]; exact hR1
  refine mr_of (by decide +kernel) (Nat.le_of_ble_eq_true rfl) (ct2 (by first | rfl | exact isR_cat (isR_rf _)) (by first | rfl | exact isR_cat (isR_rf _))) (fun X hG hl C E => ?_)
  subst hG hl
  refine r_aload_n (i := 1) C dX10_cut_0 rfl rfl (by first | rfl | exact isR_rf _) ?_
  refine r_callSn C s_X10_68 M0 dX10_cut_1 (As := [_]) rfl rfl rfl (by first | exact Nat.le_refl _ | exact Nat.le_of_ble_eq_true rfl | omega) (Nat.le_of_ble_eq_true rfl) (by first | exact Nat.le_refl _ | exact Nat.le_of_ble_eq_true rfl | omega) (by first | exact Nat.le_refl _ | exact Nat.le_of_ble_eq_true rfl | omega) ?_
  refine r_iconst (v := 0) C dX10_cut_4 (by decide) ?_
  refine r_istore_n (i := 2) C dX10_cut_5 rfl (Nat.le_of_ble_eq_true rfl) ?_
  refine r_aload_n (i := 0) C dX10_cut_6 rfl rfl (by first | rfl | exact isR_rf _) ?_
  refine r_getR C f_X10_10 dX10_cut_7 rfl (by assumption) ?_
  rw [hR0]
  refine r_callVs C v_X10_34 (c_size _ _ hkR) dX10_cut_10 (by assumption) (ci := 0) (by decide) rfl rfl (As := []) rfl rfl rfl (by first | exact Nat.le_refl _ | exact Nat.le_of_ble_eq_true rfl | omega) (Nat.le_of_ble_eq_true rfl) (by first | exact Nat.le_refl _ | exact Nat.le_of_ble_eq_true rfl | omega) (by first | exact Nat.le_refl _ | exact Nat.le_of_ble_eq_true rfl | omega) ?_
  rw [hszR]
  refine r_iconst (v := 1) C dX10_cut_13 (by decide) ?_
  refine r_isub C dX10_cut_14 ?_
  refine r_istore_n (i := 3) C dX10_cut_15 rfl (Nat.le_of_ble_eq_true rfl) ?_
  refine W X rfl rfl _ _ 0 C (by omega) (by omega) (fun v3 v4 => ?_) _
  rw [Nat.zero_add, Nat.zero_add]
  refine r_iload_n (i := 2) C dX10_cut_70 rfl rfl ?_
  exact r_iret C E dX10_cut_71 rfl rfl (by omega) (by omega)
