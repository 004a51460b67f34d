/-! ===== the law: the elements of the second house (by genlaw3.py) ===== -/
theorem lawF {X : Ctx} (C : Cx X yL_law cL_law 20 (Option.some Jvm.ClassFile.FieldType.boolean) [] 20 660499 7120272) {Ho Hq a : Nat} {w : Int32} {fd fw fh fa ft : Nat → Int32} (hR : RG w fd fw fh fa ft) (K : ∀ (k n : Nat) (b : Hp) (u11 u12 u13 u14 u15 u16 u17 u18 u19 : Value), k ≤ 4700 → n ≤ 91000 → WO (gOf X) b Ho Hq a (10, 6, w, fd, fw, fh, fa, ft) (10, 6, w, aqr fd (10), z0, z0, aqr fa 6, gR ft 6 10) (fd, fw, fh, fa, ft) → wr X k n 1083 [.ref 0, .ref Ho, .ref Hq, .ref a, .ref (a + 1), .ref (a + 2), .ref (a + 3), .ref (a + 4), .int w, .int 1, .int (nI 10), u11, u12, u13, u14, u15, u16, u17, u18, u19] [] b) :
    ∀ (m e k n : Nat) (b : Hp) (u11 u12 u13 u14 u15 u16 u17 u18 u19 : Value), e + m = 10 → 1 ≤ e → k + 30 * m ≤ 4700 → n + cS 600 m ≤ 91000 → WO (gOf X) b Ho Hq a (10, 6, w, fd, fw, fh, fa, ft) (e, 6, w, aqr fd (e), z0, z0, aqr fa 6, gR ft 6 10) (fd, fw, fh, fa, ft) → wr X k n 1021 [.ref 0, .ref Ho, .ref Hq, .ref a, .ref (a + 1), .ref (a + 2), .ref (a + 3), .ref (a + 4), .int w, .int 1, .int (nI e), u11, u12, u13, u14, u15, u16, u17, u18, u19] [] b := by
  intro m
  induction m with
  | zero =>
    intro e k n b u11 u12 u13 u14 u15 u16 u17 u18 u19 hm he hk hn W
    have : e = 10 := by omega
    subst this
    refine r_iload (i := 10) C dL_law_1021 rfl ?_
    refine r_bipush (v := nI 10) C dL_law_1023 (by decide) ?_
    refine r_ic_ge (tgt := 1083) C dL_law_1025 (by decide) (fun c => ?_) (fun c => ?_)
    rotate_left
    · exact absurd (nI_le (Nat.le_refl 10) (by decide)) c
    exact K _ _ _ _ _ _ _ _ _ _ _ _ hk (by rw [cS_0] at hn; exact hn) W
  | succ m ih =>
    intro e k n b u11 u12 u13 u14 u15 u16 u17 u18 u19 hm he hk hn W
    rw [cS_s, ← Nat.add_assoc] at hn
    have d30 := drw_lt (gOf X) e
    have c10 : e < 10 := by omega
    obtain ⟨x, hx, ex⟩ := hR.2.1 e
    obtain ⟨⟨k0, l0, d0⟩, ⟨k1, l1, d1⟩, ⟨k2, l2, d2⟩, ⟨k3, l3, d3⟩, k4, l4, d4⟩ := wo_ar W
    have d0 : hA b a = fd := d0
    have d1 : hA b (a + 1) = fw := d1
    have d2 : hA b (a + 2) = fh := d2
    have d3 : hA b (a + 3) = fa := d3
    have d4 : hA b (a + 4) = ft := d4
    refine r_iload (i := 10) C dL_law_1021 rfl ?_
    refine r_bipush (v := nI 10) C dL_law_1023 (by decide) ?_
    refine r_ic_ge (tgt := 1083) C dL_law_1025 (by decide) (fun c => ?_) (fun c => ?_)
    · exact absurd c (nle9 c10)
    refine r_iload (i := 9) C dL_law_1028 rfl ?_
    refine r_if_eq (tgt := 1083) C dL_law_1030 (by decide) (fun c => ?_) (fun c => ?_)
    · exact absurd c (by decide)
    refine r_aload_n (i := 0) C dL_law_1033 rfl rfl (by first | rfl | exact isR_rf _) ?_
    refine r_iload (i := 10) C dL_law_1034 rfl ?_
    refine r_callSs C s_L_94 (c_drawn (lOf X) (gOf X) (b := b) (k := e) (by omega)) dL_law_1036 (As := [_, _]) rfl rfl rfl (Nat.le_of_ble_eq_true rfl) (Nat.le_of_ble_eq_true rfl) (kc9 ?_) (ks9 ?_) ?_
    · omega
    · omega
    refine r_istore (i := 11) C dL_law_1039 (Nat.le_of_ble_eq_true rfl) ?_
    refine r_aload_n (i := 2) C dL_law_1041 rfl rfl (by first | rfl | exact isR_rf _) ?_
    refine r_iconst (v := 0) C dL_law_1042 (by decide) ?_
    refine r_iload (i := 11) C dL_law_1043 rfl ?_
    refine r_iload (i := 10) C dL_law_1045 rfl ?_
    refine r_remN C dL_law_1047 (by omega) (by omega) (by omega) ?_
    refine r_iload (i := 11) C dL_law_1048 rfl ?_
    refine r_bipush (v := nI 9) C dL_law_1050 (by decide) ?_
    refine r_divN C dL_law_1052 (by omega) (by omega) (by omega) ?_
    refine r_bipush (v := nI 6) C dL_law_1053 (by decide) ?_
    refine r_remN C dL_law_1055 (by omega) (by omega) (by omega) ?_
    refine r_aload_n (i := 3) C dL_law_1056 rfl rfl (by first | rfl | exact isR_rf _) ?_
    refine r_iload (i := 10) C dL_law_1057 rfl ?_
    refine r_iald (j := e) C dL_law_1059 k0 rfl (by rw [l0]; omega) ?_
    rw [d0, ex]
    refine r_iconst (v := 0) C dL_law_1060 (by decide) ?_
    refine r_iconst (v := 0) C dL_law_1061 (by decide) ?_
    obtain ⟨b', M, W'⟩ := wo_q W (fun P gb h => st_add (l := lOf X) (c := x) gb h he (by omega) rfl rfl hx)
    refine r_callHs C s_L_87 M dL_law_1062 (As := [_, _, _, _, _, _, _]) rfl rfl rfl (Nat.le_of_ble_eq_true rfl) (Nat.le_of_ble_eq_true rfl) (kc9 ?_) (ks9 ?_) ?_
    · omega
    · omega
    refine r_iload (i := 10) C dL_law_1065 rfl ?_
    refine r_ic_ne (tgt := 1074) C dL_law_1067 (by decide) (fun c => ?_) (fun c => ?_)
    · exact absurd rfl c
    refine r_iconst (v := 1) C dL_law_1070 (by decide) ?_
    refine r_goto (tgt := 1075) C dL_law_1071 (by decide) ?_
    refine r_istore (i := 9) C dL_law_1075 (Nat.le_of_ble_eq_true rfl) ?_
    refine r_iinc1 (i := 10) C dL_law_1077 rfl ?_
    rw [nI_1]
    refine r_goto (tgt := 1021) C dL_law_1080 (by decide) ?_
    rw [← ex, aqr_u] at W'
    exact ih (e + 1) _ _ _ _ _ _ _ _ _ _ _ _ (by omega) (by omega) (by omega) (by omega) W'
theorem lawG {X : Ctx} (C : Cx X yL_law cL_law 20 (Option.some Jvm.ClassFile.FieldType.boolean) [] 20 660499 7120272) {Ho Hq a : Nat} {w : Int32} {fd fw fh fa ft : Nat → Int32} (hR : RG w fd fw fh fa ft) (K : ∀ (k n : Nat) (b : Hp) (u11 u12 u13 u14 u15 u16 u17 u18 u19 : Value), k ≤ 4900 → n ≤ 96000 → WO (gOf X) b Ho Hq a (10, 6, w, fd, fw, fh, fa, ft) (10, 6, w, fd, wor fw 0, wor fh 0, fa, gR ft 6 10) (fd, fw, fh, fa, ft) → wr X k n 1151 [.ref 0, .ref Ho, .ref Hq, .ref a, .ref (a + 1), .ref (a + 2), .ref (a + 3), .ref (a + 4), .int w, .int 1, .int (-1), u11, u12, u13, u14, u15, u16, u17, u18, u19] [] b) :
    ∀ (m k n : Nat) (b : Hp) (u11 u12 u13 u14 u15 u16 u17 u18 u19 : Value), m ≤ 10 → k + 16 * m ≤ 4900 → n + cS 400 m ≤ 96000 → WO (gOf X) b Ho Hq a (10, 6, w, fd, fw, fh, fa, ft) (10, 6, w, fd, wor fw m, wor fh m, fa, gR ft 6 10) (fd, fw, fh, fa, ft) → wr X k n 1087 [.ref 0, .ref Ho, .ref Hq, .ref a, .ref (a + 1), .ref (a + 2), .ref (a + 3), .ref (a + 4), .int w, .int 1, .int (dn m), u11, u12, u13, u14, u15, u16, u17, u18, u19] [] b := by
  intro m
  induction m with
  | zero =>
    intro k n b u11 u12 u13 u14 u15 u16 u17 u18 u19 hm hk hn W
    refine r_iload (i := 10) C dL_law_1087 rfl ?_
    refine r_if_lt (tgt := 1151) C dL_law_1089 (by decide) (fun c => ?_) (fun c => ?_)
    rotate_left
    · exact absurd c (by decide)
    exact K _ _ _ _ _ _ _ _ _ _ _ _ hk (by rw [cS_0] at hn; exact hn) W
  | succ m ih =>
    intro k n b u11 u12 u13 u14 u15 u16 u17 u18 u19 hm hk hn W
    rw [cS_s, ← Nat.add_assoc] at hn
    obtain ⟨⟨k0, l0, d0⟩, ⟨k1, l1, d1⟩, ⟨k2, l2, d2⟩, ⟨k3, l3, d3⟩, k4, l4, d4⟩ := wo_ar W
    have d0 : hA b a = fd := d0
    have d1 : hA b (a + 1) = fw := d1
    have d2 : hA b (a + 2) = fh := d2
    have d3 : hA b (a + 3) = fa := d3
    have d4 : hA b (a + 4) = ft := d4
    refine r_iload (i := 10) C dL_law_1087 rfl ?_
    refine r_if_lt (tgt := 1151) C dL_law_1089 (by decide) (fun c => ?_) (fun c => ?_)
    · exact absurd c (nI_pos (by omega))
    refine r_iload (i := 9) C dL_law_1092 rfl ?_
    refine r_if_eq (tgt := 1151) C dL_law_1094 (by decide) (fun c => ?_) (fun c => ?_)
    · exact absurd c (by decide)
    have J : ∀ (k' n' : Nat) (b' : Hp), k' ≤ k + 8 → n' ≤ n + 200 → WO (gOf X) b' Ho Hq a (10, 6, w, fd, fw, fh, fa, ft) (10, 6, w, fd, wor fw m, wor fh (m + 1), fa, gR ft 6 10) (fd, fw, fh, fa, ft) → wr X k' n' 1123 [.ref 0, .ref Ho, .ref Hq, .ref a, .ref (a + 1), .ref (a + 2), .ref (a + 3), .ref (a + 4), .int w, .int 1, .int (nI m), u11, u12, u13, u14, u15, u16, u17, u18, u19] [] b' := fun k' n' b' hk' hn' W => by
      obtain ⟨⟨k0, l0, d0⟩, ⟨k1, l1, d1⟩, ⟨k2, l2, d2⟩, ⟨k3, l3, d3⟩, k4, l4, d4⟩ := wo_ar W
      have d0 : hA b' a = fd := d0
      have d1 : hA b' (a + 1) = fw := d1
      have d2 : hA b' (a + 2) = fh := d2
      have d3 : hA b' (a + 3) = fa := d3
      have d4 : hA b' (a + 4) = ft := d4
      refine r_aload_n (i := 2) C dL_law_1123 rfl rfl (by first | rfl | exact isR_rf _) ?_
      refine r_iconst (v := 0) C dL_law_1124 (by decide) ?_
      refine r_iload (i := 10) C dL_law_1125 rfl ?_
      refine r_aload (i := 5) C dL_law_1127 rfl (by first | rfl | exact isR_rf _) ?_
      refine r_iload (i := 10) C dL_law_1129 rfl ?_
      refine r_iald (j := m) C dL_law_1131 k2 rfl (by rw [l2]; omega) ?_
      rw [d2]
      obtain ⟨b2, M, W2⟩ := wo_q W (fun P gb h => st_is (l := lOf X) (e := m) (c := fh m) gb h (by decide) (by omega) (hR.2.2.2.2.2.1 m) (Or.inl wor_j))
      rw [wor_j] at M
      refine r_callHs C s_L_101 M dL_law_1132 (As := [_, _, _, _]) rfl rfl rfl (Nat.le_of_ble_eq_true rfl) (Nat.le_of_ble_eq_true rfl) (kc9 ?_) (ks9 ?_) ?_
      · omega
      · omega
      refine r_if_ne (tgt := 1142) C dL_law_1135 (by decide) (fun c => ?_) (fun c => ?_)
      · exact absurd rfl c
      refine r_iconst (v := 1) C dL_law_1138 (by decide) ?_
      refine r_goto (tgt := 1143) C dL_law_1139 (by decide) ?_
      refine r_istore (i := 9) C dL_law_1143 (Nat.le_of_ble_eq_true rfl) ?_
      refine r_iinc (i := 10) C dL_law_1145 rfl rfl ?_
      rw [dn_s]
      refine r_goto (tgt := 1087) C dL_law_1148 (by decide) ?_
      rw [wor_s] at W2
      exact ih _ _ _ _ _ _ _ _ _ _ _ _ (by omega) (by omega) (by omega) W2
    refine r_aload (i := 4) C dL_law_1097 rfl (by first | rfl | exact isR_rf _) ?_
    refine r_iload (i := 10) C dL_law_1099 rfl ?_
    refine r_iald (j := m) C dL_law_1101 k1 rfl (by rw [l1]; omega) ?_
    rw [d1]
    refine r_if_eq (tgt := 1123) C dL_law_1102 (by decide) (fun c => ?_) (fun c => ?_)
    · rw [wor_k c] at W
      exact J _ _ _ (by omega) (by omega) W
    · obtain ⟨wd, w0, w100, ew, wd0⟩ := (hR.2.2.2.1 m).resolve_left c
      refine r_aload_n (i := 2) C dL_law_1105 rfl rfl (by first | rfl | exact isR_rf _) ?_
      refine r_iconst (v := 3) C dL_law_1106 (by decide) ?_
      refine r_iload (i := 10) C dL_law_1107 rfl ?_
      refine r_aload (i := 4) C dL_law_1109 rfl (by first | rfl | exact isR_rf _) ?_
      refine r_iload (i := 10) C dL_law_1111 rfl ?_
      refine r_iald (j := m) C dL_law_1113 k1 rfl (by rw [l1]; omega) ?_
      rw [d1, ew]
      refine r_iconst (v := 0) C dL_law_1114 (by decide) ?_
      refine r_iconst (v := 0) C dL_law_1115 (by decide) ?_
      refine r_iconst (v := 0) C dL_law_1116 (by decide) ?_
      obtain ⟨b', M, W'⟩ := wo_q W (fun P gb h => st_text (l := lOf X) (e := m) (wd := wd) gb h (by decide) (by omega) w100 wd0)
      refine r_callHs C s_L_87 M dL_law_1117 (As := [_, _, _, _, _, _, _]) rfl rfl rfl (Nat.le_of_ble_eq_true rfl) (Nat.le_of_ble_eq_true rfl) (kc9 ?_) (ks9 ?_) ?_
      · omega
      · omega
      have g1 := dg_pos w0
      have g2 := dg_len 8 wd
      refine r_if_le (tgt := 1142) C dL_law_1120 (by decide) (fun c => ?_) (fun c => ?_)
      · exact absurd ((nI_leI (b := 0) (by omega) (by decide)).mp c) (by omega)
      rw [← ew, wor_s] at W'
      exact J _ _ _ (by omega) (by omega) W'
theorem lawE {X : Ctx} (C : Cx X yL_law cL_law 20 (Option.some Jvm.ClassFile.FieldType.boolean) [] 20 660499 7120272) {Ho Hq a : Nat} {w : Int32} {fd fw fh fa ft : Nat → Int32} (hR : RG w fd fw fh fa ft) (K : ∀ (k n : Nat) (b : Hp) (u11 u12 u13 u14 u15 u16 u17 u18 u19 : Value), k ≤ 4900 → n ≤ 96000 → WO (gOf X) b Ho Hq a (10, 6, w, fd, fw, fh, fa, ft) (10, 6, w, fd, wor fw 0, wor fh 0, fa, gR ft 6 10) (fd, fw, fh, fa, ft) → wr X k n 1151 [.ref 0, .ref Ho, .ref Hq, .ref a, .ref (a + 1), .ref (a + 2), .ref (a + 3), .ref (a + 4), .int w, .int 1, .int (-1), u11, u12, u13, u14, u15, u16, u17, u18, u19] [] b) {k n : Nat} {b : Hp} {u11 u12 u13 u14 u15 u16 u17 u18 u19 : Value} (hk : k ≤ 4300) (hn : n ≤ 84000) (W : WO (gOf X) b Ho Hq a (10, 6, w, fd, fw, fh, fa, ft) (1, 6, 100, z0, z0, z0, aqr fa (6), gR ft (6) 10) (fd, fw, fh, fa, ft)) : wr X k n 969 [.ref 0, .ref Ho, .ref Hq, .ref a, .ref (a + 1), .ref (a + 2), .ref (a + 3), .ref (a + 4), .int w, .int 1, .int (nI 6), u11, u12, u13, u14, u15, u16, u17, u18, u19] [] b := by
  obtain ⟨cw, hcw, ecw⟩ := id hR.1
  obtain ⟨x, hx, ex⟩ := hR.2.1 0
  have J : ∀ (k' n' : Nat) (b' : Hp), k' ≤ k + 16 → n' ≤ n + 400 → WO (gOf X) b' Ho Hq a (10, 6, w, fd, fw, fh, fa, ft) (1, 6, w, aqr fd 1, z0, z0, aqr fa 6, gR ft 6 10) (fd, fw, fh, fa, ft) → wr X k' n' 1011 [.ref 0, .ref Ho, .ref Hq, .ref a, .ref (a + 1), .ref (a + 2), .ref (a + 3), .ref (a + 4), .int w, .int 1, .int (nI 6), u11, u12, u13, u14, u15, u16, u17, u18, u19] [] b' := fun k' n' b' hk' hn' W => by
    refine r_iconst (v := 1) C dL_law_1011 (by decide) ?_
    refine r_goto (tgt := 1016) C dL_law_1012 (by decide) ?_
    refine r_istore (i := 9) C dL_law_1016 (Nat.le_of_ble_eq_true rfl) ?_
    refine r_iconst (v := nI 1) C dL_law_1018 (by decide) ?_
    refine r_istore (i := 10) C dL_law_1019 (Nat.le_of_ble_eq_true rfl) ?_
    refine lawF C hR (fun k2 n2 b2 u11 u12 u13 u14 u15 u16 u17 u18 u19 hk2 hn2 W2 => ?_) 9 1 _ _ _ _ _ _ _ _ _ _ _ _ (by decide) (by decide) (by omega) (by rw [show cS 600 9 = 5400 from rfl]; omega) W
    refine r_bipush (v := nI 9) C dL_law_1083 (by decide) ?_
    refine r_istore (i := 10) C dL_law_1085 (Nat.le_of_ble_eq_true rfl) ?_
    rw [aqr_n hR.2.2.1, aqr_n hR.2.2.2.2.2.2.2.2.1] at W2
    rw [← wor_n hR.2.2.2.2.1] at W2
    have W3 : WO (gOf X) b2 Ho Hq a (10, 6, w, fd, fw, fh, fa, ft) (10, 6, w, fd, wor fw 10, wor fh 10, fa, gR ft 6 10) (fd, fw, fh, fa, ft) := by
      rw [wor_n hR.2.2.2.2.2.2.1]
      rw [wor_n hR.2.2.2.2.1] at W2 ⊢
      exact W2
    exact lawG C hR K 10 _ _ _ _ _ _ _ _ _ _ _ _ (Nat.le_refl 10) (by omega) (by rw [show cS 400 10 = 4000 from rfl]; omega) W3
  refine r_iload (i := 9) C dL_law_969 rfl ?_
  refine r_if_eq (tgt := 1015) C dL_law_971 (by decide) (fun c => ?_) (fun c => ?_)
  · exact absurd c (by decide)
  refine r_aload_n (i := 2) C dL_law_974 rfl rfl (by first | rfl | exact isR_rf _) ?_
  refine r_iconst (v := 4) C dL_law_975 (by decide) ?_
  refine r_iload (i := 8) C dL_law_976 rfl ?_
  refine r_iconst (v := 0) C dL_law_978 (by decide) ?_
  refine r_iconst (v := 0) C dL_law_979 (by decide) ?_
  refine r_iconst (v := 0) C dL_law_980 (by decide) ?_
  refine r_iconst (v := 0) C dL_law_981 (by decide) ?_
  obtain ⟨b', M, W'⟩ := wo_q W (fun P gb h => st_window (l := lOf X) (c := cw) gb h hcw)
  rw [← ecw] at M W'
  refine r_callHs C s_L_87 M dL_law_982 (As := [_, _, _, _, _, _, _]) rfl rfl rfl (Nat.le_of_ble_eq_true rfl) (Nat.le_of_ble_eq_true rfl) (kc9 ?_) (ks9 ?_) ?_
  · omega
  · omega
  obtain ⟨⟨k0, l0, d0⟩, ⟨k1, l1, d1⟩, ⟨k2, l2, d2⟩, ⟨k3, l3, d3⟩, k4, l4, d4⟩ := wo_ar W'
  have d0 : hA b' a = fd := d0
  have d1 : hA b' (a + 1) = fw := d1
  have d2 : hA b' (a + 2) = fh := d2
  have d3 : hA b' (a + 3) = fa := d3
  have d4 : hA b' (a + 4) = ft := d4
  refine r_bipush (v := 100) C dL_law_985 (by decide) ?_
  refine r_ic_ne (tgt := 1015) C dL_law_987 (by decide) (fun c => ?_) (fun c => ?_)
  · exact absurd rfl c
  refine r_aload_n (i := 3) C dL_law_990 rfl rfl (by first | rfl | exact isR_rf _) ?_
  refine r_iconst (v := nI 0) C dL_law_991 (by decide) ?_
  refine r_iald (j := 0) C dL_law_992 k0 rfl (by rw [l0]; omega) ?_
  rw [d0]
  refine r_if_eq (tgt := 1011) C dL_law_993 (by decide) (fun c => ?_) (fun c => ?_)
  · have e1 : aqr fd 1 = z0 := (aqr_k c).trans aqr_0
    have W2 : WO (gOf X) b' Ho Hq a (10, 6, w, fd, fw, fh, fa, ft) (1, 6, w, aqr fd 1, z0, z0, aqr fa 6, gR ft 6 10) (fd, fw, fh, fa, ft) := by
      rw [e1]
      exact W'
    exact J _ _ _ (by omega) (by omega) W2
  · refine r_aload_n (i := 2) C dL_law_996 rfl rfl (by first | rfl | exact isR_rf _) ?_
    refine r_iconst (v := 2) C dL_law_997 (by decide) ?_
    refine r_iconst (v := nI 0) C dL_law_998 (by decide) ?_
    refine r_aload_n (i := 3) C dL_law_999 rfl rfl (by first | rfl | exact isR_rf _) ?_
    refine r_iconst (v := nI 0) C dL_law_1000 (by decide) ?_
    refine r_iald (j := 0) C dL_law_1001 k0 rfl (by rw [l0]; omega) ?_
    rw [d0, ex]
    refine r_iconst (v := 0) C dL_law_1002 (by decide) ?_
    refine r_iconst (v := 0) C dL_law_1003 (by decide) ?_
    refine r_iconst (v := 0) C dL_law_1004 (by decide) ?_
    obtain ⟨b2, M2, W2⟩ := wo_q W' (fun P gb h => st_dress (l := lOf X) (e := 0) (c := x) gb h (by decide) (by decide) hx)
    refine r_callHs C s_L_87 M2 dL_law_1005 (As := [_, _, _, _, _, _, _]) rfl rfl rfl (Nat.le_of_ble_eq_true rfl) (Nat.le_of_ble_eq_true rfl) (kc9 ?_) (ks9 ?_) ?_
    · omega
    · omega
    refine r_if_ne (tgt := 1015) C dL_law_1008 (by decide) (fun c => ?_) (fun c => ?_)
    · exact absurd rfl c
    have e1 : va_up z0 0 (nI x) = aqr fd 1 := by
      rw [← ex, ← aqr_u, aqr_0]
    have W3 : WO (gOf X) b2 Ho Hq a (10, 6, w, fd, fw, fh, fa, ft) (1, 6, w, aqr fd 1, z0, z0, aqr fa 6, gR ft 6 10) (fd, fw, fh, fa, ft) := by
      rw [← e1]
      exact W2
    exact J _ _ _ (by omega) (by omega) W3
