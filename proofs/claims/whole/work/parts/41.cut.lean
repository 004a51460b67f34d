/-! ===== Tree.cut ===== -/
/-- calls on some lists (S: the lists, D: their rows) leave all else as it was -/
def LFs (h h' : Hp) (S D : Nat → Prop) : Prop :=
  KP h h' ∧ (∀ f, f ≠ fA_modCount → f ≠ fA_size → hI h' f = hI h f) ∧ (∀ f b, ¬ S b → hI h' f b = hI h f b) ∧
  (∀ f, f ≠ fA_elementData → hR h' f = hR h f) ∧ (∀ f b, ¬ S b → hR h' f b = hR h f b) ∧ hA h' = hA h ∧ hW h' = hW h ∧ (∀ b, b < hN h → ¬ D b → hQ h' b = hQ h b)
theorem LFs_r (h : Hp) (S D : Nat → Prop) : LFs h h S D :=
  ⟨KP_r h, fun _ _ _ => rfl, fun _ _ _ => rfl, fun _ _ => rfl, fun _ _ _ => rfl, rfl, rfl, fun _ _ _ => rfl⟩
theorem LFs_t {h h1 h2 : Hp} {S D : Nat → Prop} {l d d' : Nat} (A : LFs h h1 S D) (B : LF h1 h2 l d d') (hl : S l) (hd : D d ∨ hN h ≤ d) : LFs h h2 S D := by
  obtain ⟨a0, a2, a3, a4, a5, a6, a7, a8⟩ := A
  obtain ⟨b0, b1, b2, b3, b4, b5, b6, b7, b8⟩ := B
  refine ⟨KP_t a0 b0, fun f x z => (b2 f x z).trans (a2 f x z), fun f b hb => (b3 f b (fun z => hb (by rw [z]; exact hl))).trans (a3 f b hb), fun f hf => (b4 f hf).trans (a4 f hf), fun f b hb => (b5 f b (fun z => hb (by rw [z]; exact hl))).trans (a5 f b hb), b6.trans a6, b7.trans a7, fun b hb hD => ?_⟩
  refine (b8 b (Nat.lt_of_lt_of_le hb a0.1) (fun z => ?_)).trans (a8 b hb hD)
  rcases hd with e | e
  · exact hD (by rw [z]; exact e)
  · omega
theorem cut1 (l : Launch) (G : Gl) {h : Hp} {t R I dR dI top : Nat} {es : List Nat} {U : Nat → List Nat} {wi : Nat → Bool} (hg : Good h) (hkt : hK h t = 8) (hR1 : hR h fT_row t = some R) (hI1 : hR h fT_idle t = some I) (hRI : R ≠ I) (hdR : dR < hN h) (hl : es.length ≤ 24)
    (hes : ∀ x, x ∈ es → hK h x = 3 ∧ LN fE_parent h (some x) (U x)) (ht6 : 6 ≤ top) (hwi : ∀ x, x ∈ es → (wi x = true ↔ top ∈ U x)) :
    ∀ (m : Nat) (h1 : Hp) (d1 n : Nat) (zs js : List Nat), m ≤ es.length → Good h1 → LFs h h1 (fun b => b = R ∨ b = I) (fun b => b = dR ∨ b = dI) → (d1 = dI ∨ hN h ≤ d1) → (dR = d1 → dR = 4) → AL h1 R dR zs → AL h1 I d1 js → zs = es.take m ++ (es.drop m).filter (fun x => !(wi x)) → js.length + m ≤ 39 → (∀ x, x ∈ js → hK h x = 3) →
      ∃ (h2 : Hp) (d2 c : Nat), Good h2 ∧ LFs h h2 (fun b => b = R ∨ b = I) (fun b => b = dR ∨ b = dI) ∧ (d2 = dI ∨ hN h ≤ d2) ∧ (dR = d2 → dR = 4) ∧ AL h2 R dR (es.filter fun x => !(wi x)) ∧ AL h2 I d2 (js ++ ((es.take m).filter wi).reverse) ∧ c ≤ m ∧
        ∀ (X : Ctx), lOf X = l → gOf X = G → ∀ (mc ms k : Nat), Cx X yX10_cut cX10_cut 5 (some .int) [] 7 mc ms → k + c ≤ mc → 60 * (k + c) ≤ ms →
          (∀ v3 v4, wr X (k + c) (60 * (k + c)) 70 [.ref t, .ref top, .int (nI (n + ((es.take m).filter wi).length)), v3, v4] [] h2) → ∀ v4, wr X k (60 * k) 16 [.ref t, .ref top, .int (nI n), .int (nI m - 1), v4] [] h1 := by
  intro m
  induction m with
  | zero =>
    intro h1 d1 n zs js _ hg1 F1 D1 D2 AR AI hz _ _
    have hz' : zs = es.filter (fun x => !(wi x)) := by rw [hz]; rfl
    rw [hz'] at AR
    refine ⟨h1, d1, 0, hg1, F1, D1, D2, AR, by simpa using AI, Nat.le_refl _, fun X e1 e2 mc ms k C hkc hmc K v4 => ?_⟩
    have K' := K (.int (nI 0 - 1)) v4
    refine r_iload_n (i := 3) C dX10_cut_16 rfl rfl ?_
    refine r_if_lt (tgt := 70) C dX10_cut_17 (by decide) (fun _ => K') (fun c => absurd (by decide : (nI 0 - 1 : Int32) < 0) c)
  | succ m ih =>
    intro h1 d1 n zs js hm hg1 F1 D1 D2 AR AI hz hjl hjk
    have hlt : m < es.length := hm
    obtain ⟨x, hxm⟩ : ∃ x, x = es[m] := ⟨_, rfl⟩
    have htk : es.take (m + 1) = es.take m ++ [x] := by rw [List.take_succ, List.getElem?_eq_getElem hlt, ← hxm]; rfl
    have hdr : es.drop m = x :: es.drop (m + 1) := by rw [List.drop_eq_getElem_cons hlt, ← hxm]
    have hzs : zs = es.take m ++ x :: (es.drop (m + 1)).filter (fun x => !(wi x)) := by rw [hz, htk, List.append_assoc]; rfl
    have hlm : (es.take m).length = m := by rw [List.length_take]; omega
    have hzx : zs[m]? = some x := by rw [hzs, List.getElem?_append_right (by omega), hlm, Nat.sub_self]; rfl
    have hxs : x ∈ es := by rw [hxm]; exact List.getElem_mem _
    have hkx : hK h1 x = 3 := KP_k hg F1.1 (hes x hxs).1 (by decide)
    have hkt1 : hK h1 t = 8 := KP_k hg F1.1 hkt (by decide)
    have hR2 : hR h1 fT_row t = some R := by rw [F1.2.2.2.1 _ (by decide)]; exact hR1
    have hI2 : hR h1 fT_idle t = some I := by rw [F1.2.2.2.1 _ (by decide)]; exact hI1
    have hkR := AR.1
    have hkI := AI.1
    have hLN : LN fE_parent h1 (some x) (U x) := KP_LN hg F1.1 (F1.2.2.2.1 _ (by decide)) (hes x hxs).2
    by_cases cw : wi x = true
    · have hin := (hwi x hxs).mp cw
      have hzm : ∀ q ∈ zs, hK h1 q = 3 := fun q hq => by
        rw [hzs] at hq
        rcases List.mem_append.mp hq with hq | hq
        · exact KP_k hg F1.1 (hes q (List.mem_of_mem_take hq)).1 (by decide)
        · rcases List.mem_cons.mp hq with hq | hq
          · rw [hq]; exact hkx
          · exact KP_k hg F1.1 (hes q (List.mem_of_mem_drop (List.mem_filter.mp hq).1)).1 (by decide)
      obtain ⟨h2, M2, A2, F2', g2⟩ := c_remove l G hg1 AR hzx LK3 hzm
      have F2 := LF_of F2'
      have L2 := LFs_t F1 F2 (Or.inl rfl) (Or.inl (Or.inl rfl))
      have AI2 := LF_AL hg1 F2 AI (fun z => hRI z.symm) (fun z => z.trans (D2 z.symm))
      obtain ⟨h3, d3, c3, M3, A3, F3', Q3, g3⟩ := c_add l G g2 AI2 (by omega) LK3 (fun y hy => KP_k hg L2.1 (hjk y hy) (by decide)) (KP_k hg L2.1 (hes x hxs).1 (by decide))
      have hc3 := AC_le Q3
      have F3 := LF_of F3'
      have L3 := LFs_t L2 F3 (Or.inr rfl) (by
        rcases D1 with e | e
        · exact Or.inl (Or.inr e)
        · exact Or.inr e)
      have hNle := L2.1.1
      have D3 : d3 = dI ∨ hN h ≤ d3 := by
        rcases F3.2.1 with e | e
        · rw [e]; exact D1
        · exact Or.inr (Nat.le_trans hNle e)
      have D4 : dR = d3 → dR = 4 := fun z => by
        rcases F3.2.1 with e | e
        · exact D2 (z.trans e)
        · omega
      have AR3 := LF_AL g2 F3 A2 hRI D2
      have hze : zs.eraseIdx m = es.take m ++ (es.drop m).filter (fun x => !(wi x)) := by
        have := flt_app (es.take m) ((es.drop (m + 1)).filter (fun x => !(wi x))) x
        rw [hlm] at this
        rw [hzs, this, hdr, List.filter_cons_of_neg (by simp [cw])]
      obtain ⟨h4, d4, c4, g4, L4, E1, E2, AR4, AI4, hc4, W⟩ := ih h3 d3 (n + 1) _ (js ++ [x]) (by omega) g3 L3 D3 D4 AR3 A3 hze (by simp; omega) (fun y hy => by
        rcases List.mem_append.mp hy with z | z
        · exact hjk y z
        · rw [List.mem_singleton.mp z]; exact (hes x hxs).1)
      have hfl : (es.take (m + 1)).filter wi = (es.take m).filter wi ++ [x] := by rw [htk, List.filter_append, List.filter_cons_of_pos cw]; rfl
      refine ⟨h4, d4, c3 + c4, g4, L4, E1, E2, AR4, ?_, by omega, fun X e1 e2 mc ms k C hkc hmc K v4 => ?_⟩
      · rw [hfl, List.reverse_append]
        rw [List.append_assoc] at AI4
        exact AI4
      · have W' := W X e1 e2 mc ms (k + c3) C (by omega) (by omega) (fun v3 v4 => by
          have K' := K v3 v4
          rw [hfl, List.length_append, show n + (((es.take m).filter wi).length + [x].length) = n + 1 + ((es.take m).filter wi).length by simp; omega, ← Nat.add_assoc k] at K'
          exact K') (.ref x)
        subst e1 e2
        have hkI2 := AI2.1
        have hI3 : hR h2 fT_idle t = some I := by rw [L2.2.2.2.1 _ (by decide)]; exact hI1
        have hkt2 : hK h2 t = 8 := KP_k hg L2.1 hkt (by decide)
        refine r_iload_n (i := 3) C dX10_cut_16 rfl rfl ?_
        rw [show (nI (m + 1) - 1 : Int32) = nI m from nI_pred m]
        refine r_if_lt (tgt := 70) C dX10_cut_17 (by decide) (fun c_17 => ?_) (fun c_17 => ?_)
        · exact absurd c_17 (nI_pos (by omega))
        · refine r_aload_n (i := 0) C dX10_cut_20 rfl rfl (by first | rfl | exact isR_rf _) ?_
          refine r_getR C f_X10_10 dX10_cut_21 rfl (by assumption) ?_
          rw [hR2]
          refine r_iload_n (i := 3) C dX10_cut_24 rfl rfl ?_
          refine r_callVs C v_X10_38 (c_get _ _ AR hzx) dX10_cut_25 (by assumption) (ci := 0) (by decide) rfl rfl (As := [_]) rfl rfl rfl (by first | exact Nat.le_refl _ | exact Nat.le_of_ble_eq_true rfl | omega) (Nat.le_of_ble_eq_true rfl) (by first | exact Nat.le_refl _ | exact Nat.le_of_ble_eq_true rfl | omega) (by first | exact Nat.le_refl _ | exact Nat.le_of_ble_eq_true rfl | omega) ?_
          refine r_cast (o := some _) (ci := 3) C dX10_cut_28 c_X10_19 rfl (by decide) (by decide +kernel) (fun a q => by cases q; exact hkx) ?_
          refine r_astore (i := 4) C dX10_cut_31 (Nat.le_of_ble_eq_true rfl) (by first | rfl | exact isR_rf _) ?_
          refine r_aload (i := 4) C dX10_cut_33 rfl (by first | rfl | exact isR_rf _) ?_
          refine r_aload_n (i := 1) C dX10_cut_35 rfl rfl (by first | rfl | exact isR_rf _) ?_
          refine r_callVs C v_X10_72 (c_isWithin _ _ hLN ht6) dX10_cut_36 (by assumption) (ci := 3) (by decide) rfl rfl (As := [_]) rfl rfl rfl (by first | exact Nat.le_refl _ | exact Nat.le_of_ble_eq_true rfl | omega) (Nat.le_of_ble_eq_true rfl) (by first | exact Nat.le_refl _ | exact Nat.le_of_ble_eq_true rfl | omega) (by first | exact Nat.le_refl _ | exact Nat.le_of_ble_eq_true rfl | omega) ?_
          rw [if_pos hin]
          refine r_if_eq (tgt := 64) C dX10_cut_39 (by decide) (fun c_39 => ?_) (fun c_39 => ?_)
          · exact absurd c_39 (by decide)
          · refine r_aload_n (i := 0) C dX10_cut_42 rfl rfl (by first | rfl | exact isR_rf _) ?_
            refine r_getR C f_X10_10 dX10_cut_43 rfl (by assumption) ?_
            rw [hR2]
            refine r_iload_n (i := 3) C dX10_cut_46 rfl rfl ?_
            refine r_callVs C v_X10_49 M2 dX10_cut_47 (by assumption) (ci := 0) (by decide) rfl rfl (As := [_]) rfl rfl rfl (by first | exact Nat.le_refl _ | exact Nat.le_of_ble_eq_true rfl | omega) (Nat.le_of_ble_eq_true rfl) (by first | exact Nat.le_refl _ | exact Nat.le_of_ble_eq_true rfl | omega) (by first | exact Nat.le_refl _ | exact Nat.le_of_ble_eq_true rfl | omega) ?_
            refine r_pop C (by first | rfl | exact isR_cat (isR_rf _)) dX10_cut_50 ?_
            refine r_aload_n (i := 0) C dX10_cut_51 rfl rfl (by first | rfl | exact isR_rf _) ?_
            refine r_getR C f_X10_16 dX10_cut_52 rfl (by assumption) ?_
            rw [hI3]
            refine r_aload (i := 4) C dX10_cut_55 rfl (by first | rfl | exact isR_rf _) ?_
            refine r_callVs C v_X10_26 M3 dX10_cut_57 (by assumption) (ci := 0) (by decide) rfl rfl (As := [_]) rfl rfl rfl (by first | exact Nat.le_refl _ | exact Nat.le_of_ble_eq_true rfl | omega) (Nat.le_of_ble_eq_true rfl) (by first | exact Nat.le_refl _ | exact Nat.le_of_ble_eq_true rfl | omega) (by first | exact Nat.le_refl _ | exact Nat.le_of_ble_eq_true rfl | omega) ?_
            refine r_pop C (by first | rfl | exact isR_cat (isR_rf _)) dX10_cut_60 ?_
            refine r_iinc1 (i := 2) C dX10_cut_61 rfl ?_
            rw [nI_1]
            refine r_iinc (i := 3) C dX10_cut_64 rfl rfl ?_
            refine r_goto (tgt := 16) C dX10_cut_67 (by decide) ?_
            rw [Nat.mul_add, Int32.sub_eq_add_neg] at W'
            exact W'
    · have hin : ¬ top ∈ U x := fun z => cw ((hwi x hxs).mpr z)
      obtain ⟨h4, d4, c4, g4, L4, E1, E2, AR4, AI4, hc4, W⟩ := ih h1 d1 n zs js (by omega) hg1 F1 D1 D2 AR AI (by rw [hzs, hdr, List.filter_cons_of_pos (by simp [cw])]) (by omega) hjk
      have hfl : (es.take (m + 1)).filter wi = (es.take m).filter wi := by rw [htk, List.filter_append, List.filter_cons_of_neg cw]; simp
      refine ⟨h4, d4, c4, g4, L4, E1, E2, AR4, by rw [hfl]; exact AI4, by omega, fun X e1 e2 mc ms k C hkc hmc K v4 => ?_⟩
      have W' := W X e1 e2 mc ms k C hkc hmc (by rw [hfl] at K; exact K) (.ref x)
      subst e1 e2
      refine r_iload_n (i := 3) C dX10_cut_16 rfl rfl ?_
      rw [show (nI (m + 1) - 1 : Int32) = nI m from nI_pred m]
      refine r_if_lt (tgt := 70) C dX10_cut_17 (by decide) (fun c_17 => ?_) (fun c_17 => ?_)
      · exact absurd c_17 (nI_pos (by omega))
      · refine r_aload_n (i := 0) C dX10_cut_20 rfl rfl (by first | rfl | exact isR_rf _) ?_
        refine r_getR C f_X10_10 dX10_cut_21 rfl (by assumption) ?_
        rw [hR2]
        refine r_iload_n (i := 3) C dX10_cut_24 rfl rfl ?_
        refine r_callVs C v_X10_38 (c_get _ _ AR hzx) dX10_cut_25 (by assumption) (ci := 0) (by decide) rfl rfl (As := [_]) rfl rfl rfl (by first | exact Nat.le_refl _ | exact Nat.le_of_ble_eq_true rfl | omega) (Nat.le_of_ble_eq_true rfl) (by first | exact Nat.le_refl _ | exact Nat.le_of_ble_eq_true rfl | omega) (by first | exact Nat.le_refl _ | exact Nat.le_of_ble_eq_true rfl | omega) ?_
        refine r_cast (o := some _) (ci := 3) C dX10_cut_28 c_X10_19 rfl (by decide) (by decide +kernel) (fun a q => by cases q; exact hkx) ?_
        refine r_astore (i := 4) C dX10_cut_31 (Nat.le_of_ble_eq_true rfl) (by first | rfl | exact isR_rf _) ?_
        refine r_aload (i := 4) C dX10_cut_33 rfl (by first | rfl | exact isR_rf _) ?_
        refine r_aload_n (i := 1) C dX10_cut_35 rfl rfl (by first | rfl | exact isR_rf _) ?_
        refine r_callVs C v_X10_72 (c_isWithin _ _ hLN ht6) dX10_cut_36 (by assumption) (ci := 3) (by decide) rfl rfl (As := [_]) rfl rfl rfl (by first | exact Nat.le_refl _ | exact Nat.le_of_ble_eq_true rfl | omega) (Nat.le_of_ble_eq_true rfl) (by first | exact Nat.le_refl _ | exact Nat.le_of_ble_eq_true rfl | omega) (by first | exact Nat.le_refl _ | exact Nat.le_of_ble_eq_true rfl | omega) ?_
        rw [if_neg hin]
        refine r_if_eq (tgt := 64) C dX10_cut_39 (by decide) (fun c_39 => ?_) (fun c_39 => ?_)
        · refine r_iinc (i := 3) C dX10_cut_64 rfl rfl ?_
          refine r_goto (tgt := 16) C dX10_cut_67 (by decide) ?_
          rw [Int32.sub_eq_add_neg] at W'
          exact W'
        · exact absurd rfl c_39
