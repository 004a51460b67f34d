/-! ===== the law: the second house is told, and the two are compared (by genlaw3.py) ===== -/
def dn : Nat → Int32
  | 0 => -1
  | j + 1 => nI j
theorem dn_s (m : Nat) : nI m + Int32.ofInt (-1) = dn m := by
  cases m with
  | zero => decide
  | succ j =>
    rw [nI_m1, ← nI_1]
    exact Int32.add_sub_cancel _ _
theorem nI_sub1 (t : Nat) : nI (t + 1) - 1 = nI t := by
  rw [← nI_1]
  exact Int32.add_sub_cancel _ _
def aqr (fa : Nat → Int32) (r i : Nat) : Int32 := if i < r then fa i else 0
theorem aqr_s {fa : Nat → Int32} {r : Nat} {v : Int32} : va_up (va_up (aqr fa r) r v) r (fa r) = aqr fa (r + 1) := funext fun i => by
  unfold aqr
  by_cases q : i = r
  · rw [q, va_up_self, if_pos (Nat.lt_succ_self r)]
  · rw [va_up_ne _ _ q, va_up_ne _ _ q]
    by_cases z : i < r
    · rw [if_pos z, if_pos (by omega)]
    · rw [if_neg z, if_neg (by omega)]
theorem aqr_0 {fa : Nat → Int32} : aqr fa 0 = z0 := funext fun i => if_neg (Nat.not_lt_zero i)
theorem aqr_n {fa : Nat → Int32} {n : Nat} (h : ∀ i, n ≤ i → fa i = 0) : aqr fa n = fa := funext fun i => by
  unfold aqr
  by_cases z : i < n
  · exact if_pos z
  · rw [if_neg z, h i (by omega)]
theorem aqr_u {fa : Nat → Int32} {r : Nat} : va_up (aqr fa r) r (fa r) = aqr fa (r + 1) := funext fun i => by
  unfold aqr
  by_cases q : i = r
  · rw [q, va_up_self, if_pos (Nat.lt_succ_self r)]
  · rw [va_up_ne _ _ q]
    by_cases z : i < r
    · rw [if_pos z, if_pos (by omega)]
    · rw [if_neg z, if_neg (by omega)]
theorem aqr_k {fa : Nat → Int32} {r : Nat} (h : fa r = 0) : aqr fa (r + 1) = aqr fa r := funext fun i => by
  unfold aqr
  by_cases q : i = r
  · rw [q, if_pos (Nat.lt_succ_self r), if_neg (Nat.lt_irrefl r), h]
  · by_cases z : i < r
    · rw [if_pos z, if_pos (by omega)]
    · rw [if_neg z, if_neg (by omega)]
def wor (f : Nat → Int32) (m j : Nat) : Int32 := if m ≤ j then f j else 0
theorem wor_s {f : Nat → Int32} {j : Nat} : va_up (wor f (j + 1)) j (f j) = wor f j := funext fun i => by
  unfold wor
  by_cases q : i = j
  · rw [q, va_up_self, if_pos (Nat.le_refl j)]
  · rw [va_up_ne _ _ q]
    by_cases z : j + 1 ≤ i
    · rw [if_pos z, if_pos (by omega)]
    · rw [if_neg z, if_neg (by omega)]
theorem wor_k {f : Nat → Int32} {j : Nat} (h : f j = 0) : wor f (j + 1) = wor f j := funext fun i => by
  unfold wor
  by_cases q : i = j
  · rw [q, if_pos (Nat.le_refl j), if_neg (by omega), h]
  · by_cases z : j + 1 ≤ i
    · rw [if_pos z, if_pos (by omega)]
    · rw [if_neg z, if_neg (by omega)]
theorem wor_n {f : Nat → Int32} {n : Nat} (h : ∀ i, n ≤ i → f i = 0) : wor f n = z0 := funext fun i => by
  unfold wor
  by_cases z : n ≤ i
  · rw [if_pos z]
    exact h i z
  · rw [if_neg z]
theorem wor_0 {f : Nat → Int32} : wor f 0 = f := funext fun i => if_pos (Nat.zero_le i)
theorem wor_j {f : Nat → Int32} {j : Nat} : wor f (j + 1) j = 0 := if_neg (by omega)
theorem dg_pos {wd : Nat} (h : 0 < wd) : 0 < (dg 8 wd).length := by
  rw [dg_s h]
  exact Nat.succ_pos _
theorem lawD1 {X : Ctx} (C : Cx X yL_law cL_law 20 (Option.some Jvm.ClassFile.FieldType.boolean) [] 20 660499 7120272) {Ho Hq a : Nat} {r KB NB : Nat} {w : Int32} {fd fw fh fa ft aq : Nat → Int32} {u11 u13 u14 u15 u16 u17 u18 u19 : Value} (h6r : r < 6) (hKB : KB ≤ 50000) (hNB : NB ≤ 200000) (hR : RG w fd fw fh fa ft)
    (K : ∀ (k n : Nat) (b : Hp), k ≤ KB → n ≤ NB → WO (gOf X) b Ho Hq a (10, 6, w, fd, fw, fh, fa, ft) (1, r + 1, 100, z0, z0, z0, aq, gR ft r 0) (fd, fw, fh, fa, ft) → wr X k n 931 [.ref 0, .ref Ho, .ref Hq, .ref a, .ref (a + 1), .ref (a + 2), .ref (a + 3), .ref (a + 4), .int w, .int 1, .int (nI r), u11, .int (-1), u13, u14, u15, u16, u17, u18, u19] [] b) : ∀ (m k n : Nat) (b : Hp), m ≤ 10 → k + 30 * m ≤ KB → n + cS 600 m ≤ NB → WO (gOf X) b Ho Hq a (10, 6, w, fd, fw, fh, fa, ft) (1, r + 1, 100, z0, z0, z0, aq, gR ft r m) (fd, fw, fh, fa, ft) → wr X k n 870 [.ref 0, .ref Ho, .ref Hq, .ref a, .ref (a + 1), .ref (a + 2), .ref (a + 3), .ref (a + 4), .int w, .int 1, .int (nI r), u11, .int (dn m), u13, u14, u15, u16, u17, u18, u19] [] b := by
  intro m
  induction m with
  | zero =>
    intro k n b hm hk hn W
    refine r_iload (i := 12) C dL_law_870 rfl ?_
    refine r_if_lt (tgt := 931) C dL_law_872 (by decide) (fun c => ?_) (fun c => ?_)
    rotate_left
    · exact absurd c (by decide)
    exact K _ _ _ hk (by rw [cS_0] at hn; exact hn) W
  | succ m ih =>
    intro k n b hm hk hn W
    rw [cS_s, ← Nat.add_assoc] at hn
    obtain ⟨⟨k0, l0, d0⟩, ⟨k1, l1, d1⟩, ⟨k2, l2, d2⟩, ⟨k3, l3, d3⟩, k4, l4, d4⟩ := wo_ar W
    have d0 : hA b a = fd := d0
    have d1 : hA b (a + 1) = fw := d1
    have d2 : hA b (a + 2) = fh := d2
    have d3 : hA b (a + 3) = fa := d3
    have d4 : hA b (a + 4) = ft := d4
    refine r_iload (i := 12) C dL_law_870 rfl ?_
    refine r_if_lt (tgt := 931) C dL_law_872 (by decide) (fun c => ?_) (fun c => ?_)
    · exact absurd c (nI_pos (by omega))
    refine r_iload (i := 9) C dL_law_875 rfl ?_
    refine r_if_eq (tgt := 931) C dL_law_877 (by decide) (fun c => ?_) (fun c => ?_)
    · exact absurd c (by decide)
    have J : ∀ (k' n' : Nat) (b' : Hp), k' ≤ k + 30 → n' ≤ n + 600 → WO (gOf X) b' Ho Hq a (10, 6, w, fd, fw, fh, fa, ft) (1, r + 1, 100, z0, z0, z0, aq, gR ft r m) (fd, fw, fh, fa, ft) → wr X k' n' 918 [.ref 0, .ref Ho, .ref Hq, .ref a, .ref (a + 1), .ref (a + 2), .ref (a + 3), .ref (a + 4), .int w, .int 1, .int (nI r), u11, .int (nI m), u13, u14, u15, u16, u17, u18, u19] [] b' := fun k' n' b' hk' hn' W' => by
      refine r_iconst (v := 1) C dL_law_918 (by decide) ?_
      refine r_goto (tgt := 923) C dL_law_919 (by decide) ?_
      refine r_istore (i := 9) C dL_law_923 (Nat.le_of_ble_eq_true rfl) ?_
      refine r_iinc (i := 12) C dL_law_925 rfl rfl ?_
      rw [dn_s]
      refine r_goto (tgt := 870) C dL_law_928 (by decide) ?_
      exact ih _ _ _ (by omega) (by omega) (by omega) W'
    refine r_aload (i := 7) C dL_law_880 rfl (by first | rfl | exact isR_rf _) ?_
    refine r_bipush (v := nI 10) C dL_law_882 (by decide) ?_
    refine r_iload (i := 10) C dL_law_884 rfl ?_
    refine r_mulN C dL_law_886 ?_
    refine r_iload (i := 12) C dL_law_887 rfl ?_
    refine r_addN C dL_law_889 ?_
    refine r_iald (j := 10 * r + m) C dL_law_890 k4 rfl (by rw [l4]; omega) ?_
    rw [d4]
    refine r_if_eq (tgt := 918) C dL_law_891 (by decide) (fun c => ?_) (fun c => ?_)
    · rw [gR_k (by omega) c] at W
      exact J _ _ _ (by omega) (by omega) W
    · obtain ⟨t, ht, et⟩ := (hR.2.2.2.2.2.2.2.2.2.1 (10 * r + m)).resolve_left c
      have h6 : cg (gR ft r (m + 1)) r m ≤ 6 := Nat.le_trans (cg_R c) (hR.2.2.2.2.2.2.2.2.2.2 r h6r)
      have h1 := cg_1 (g := gR ft r (m + 1)) (r := r) (p := m) (by omega)
      refine r_aload_n (i := 2) C dL_law_894 rfl rfl (by first | rfl | exact isR_rf _) ?_
      refine r_iload (i := 10) C dL_law_895 rfl ?_
      refine r_iload (i := 12) C dL_law_897 rfl ?_
      refine r_aload (i := 7) C dL_law_899 rfl (by first | rfl | exact isR_rf _) ?_
      refine r_bipush (v := 10) C dL_law_901 (by decide) ?_
      refine r_iload (i := 10) C dL_law_903 rfl ?_
      refine r_mulN C dL_law_905 ?_
      refine r_iload (i := 12) C dL_law_906 rfl ?_
      refine r_addN C dL_law_908 ?_
      refine r_iald (j := 10 * r + m) C dL_law_909 k4 rfl (by rw [l4]; omega) ?_
      rw [d4, et]
      refine r_iconst (v := 1) C dL_law_910 (by decide) ?_
      refine r_isub C dL_law_911 ?_
      rw [nI_sub1]
      obtain ⟨b', M, W'⟩ := wo_q W (fun P gb h => st_decl (l := lOf X) (r := r) (p := m) (t := t) gb h (Nat.lt_succ_self r) (by omega) (by omega) ht h6)
      refine r_callSs C s_L_105 M dL_law_912 (As := [_, _, _, _]) rfl rfl rfl (Nat.le_of_ble_eq_true rfl) (Nat.le_of_ble_eq_true rfl) (kc9 ?_) (ks9 ?_) ?_
      · omega
      · omega
      refine r_if_le (tgt := 922) C dL_law_915 (by decide) (fun c => ?_) (fun c => ?_)
      · exact absurd ((nI_leI (b := 0) (by omega) (by decide)).mp c) (by omega)
      rw [← et, gR_s (by omega)] at W'
      exact J _ _ _ (by omega) (by omega) W'
theorem lawD {X : Ctx} (C : Cx X yL_law cL_law 20 (Option.some Jvm.ClassFile.FieldType.boolean) [] 20 660499 7120272) {Ho Hq a : Nat} {w : Int32} {fd fw fh fa ft : Nat → Int32} (hR : RG w fd fw fh fa ft) (K : ∀ (k n : Nat) (b : Hp) (u11 u12 u13 u14 u15 u16 u17 u18 u19 : Value), k ≤ 4300 → n ≤ 84000 → WO (gOf X) b Ho Hq a (10, 6, w, fd, fw, fh, fa, ft) (1, 6, 100, z0, z0, z0, aqr fa (6), gR ft (6) 10) (fd, fw, fh, fa, ft) → wr X k n 969 [.ref 0, .ref Ho, .ref Hq, .ref a, .ref (a + 1), .ref (a + 2), .ref (a + 3), .ref (a + 4), .int w, .int 1, .int (nI 6), u11, u12, u13, u14, u15, u16, u17, u18, u19] [] b) :
    ∀ (m r k n : Nat) (b : Hp) (u11 u12 u13 u14 u15 u16 u17 u18 u19 : Value), r + m = 6 → k + cS 340 m ≤ 4300 → n + cS 6900 m ≤ 84000 → WO (gOf X) b Ho Hq a (10, 6, w, fd, fw, fh, fa, ft) (1, r, 100, z0, z0, z0, aqr fa (r), gR ft (r) 10) (fd, fw, fh, fa, ft) → wr X k n 760 [.ref 0, .ref Ho, .ref Hq, .ref a, .ref (a + 1), .ref (a + 2), .ref (a + 3), .ref (a + 4), .int w, .int 1, .int (nI r), u11, u12, u13, u14, u15, u16, u17, u18, u19] [] b := by
  intro m
  induction m with
  | zero =>
    intro r k n b u11 u12 u13 u14 u15 u16 u17 u18 u19 hm hk hn W
    have : r = 6 := by omega
    subst this
    refine r_iload (i := 10) C dL_law_760 rfl ?_
    refine r_bipush (v := nI 6) C dL_law_762 (by decide) ?_
    refine r_ic_ge (tgt := 969) C dL_law_764 (by decide) (fun c => ?_) (fun c => ?_)
    rotate_left
    · exact absurd (nI_le (Nat.le_refl 6) (by decide)) c
    exact K _ _ _ _ _ _ _ _ _ _ _ _ (by rw [cS_0] at hk; exact hk) (by rw [cS_0] at hn; exact hn) W
  | succ m ih =>
    intro r k n b u11 u12 u13 u14 u15 u16 u17 u18 u19 hm hk hn W
    rw [cS_s, ← Nat.add_assoc] at hk hn
    have d30 := drw_lt (gOf X) (10 + r)
    have c6 : r < 6 := by omega
    refine r_iload (i := 10) C dL_law_760 rfl ?_
    refine r_bipush (v := nI 6) C dL_law_762 (by decide) ?_
    refine r_ic_ge (tgt := 969) C dL_law_764 (by decide) (fun c => ?_) (fun c => ?_)
    · exact absurd c (nle9 c6)
    refine r_iload (i := 9) C dL_law_767 rfl ?_
    refine r_if_eq (tgt := 969) C dL_law_769 (by decide) (fun c => ?_) (fun c => ?_)
    · exact absurd c (by decide)
    refine r_aload_n (i := 0) C dL_law_772 rfl rfl (by first | rfl | exact isR_rf _) ?_
    refine r_bipush (v := nI 10) C dL_law_773 (by decide) ?_
    refine r_iload (i := 10) C dL_law_775 rfl ?_
    refine r_addN C dL_law_777 ?_
    refine r_callSs C s_L_94 (c_drawn (lOf X) (gOf X) (b := b) (k := 10 + r) (by omega)) dL_law_778 (As := [_, _]) rfl rfl rfl (Nat.le_of_ble_eq_true rfl) (Nat.le_of_ble_eq_true rfl) (kc9 ?_) (ks9 ?_) ?_
    · omega
    · omega
    refine r_istore (i := 11) C dL_law_781 (Nat.le_of_ble_eq_true rfl) ?_
    have J2 : ∀ y : Int32, y = rb (gOf X) r → wr X (k + 0) (n + 0) 851 [.ref 0, .ref Ho, .ref Hq, .ref a, .ref (a + 1), .ref (a + 2), .ref (a + 3), .ref (a + 4), .int w, .int 1, .int (nI r), .int (nI (drw (gOf X) (10 + r))), u12, u13, u14, u15, u16, u17, u18, u19] [.int y, .int (nI (drw (gOf X) (10 + r) / 288 % 3)), .int (nI (drw (gOf X) (10 + r) / 144 % 2)), .int (nI (drw (gOf X) (10 + r) / 72 % 2 * 8)), .int (nI (drw (gOf X) (10 + r) / 18 % 4)), .int (rt (gOf X) r), .ref Hq] b := fun y hy => by
      subst hy
      obtain ⟨b', M, W'⟩ := wo_q W (fun P gb h => st_rule (l := lOf X) gb h (by omega))
      refine r_callHs C s_L_98 M dL_law_851 (As := [_, _, _, _, _, _, _]) rfl rfl rfl (Nat.le_of_ble_eq_true rfl) (Nat.le_of_ble_eq_true rfl) (kc9 ?_) (ks9 ?_) ?_
      · omega
      · omega
      refine r_iload (i := 10) C dL_law_854 rfl ?_
      refine r_ic_ne (tgt := 863) C dL_law_856 (by decide) (fun c => ?_) (fun c => ?_)
      · exact absurd rfl c
      refine r_iconst (v := 1) C dL_law_859 (by decide) ?_
      refine r_goto (tgt := 864) C dL_law_860 (by decide) ?_
      refine r_istore (i := 9) C dL_law_864 (Nat.le_of_ble_eq_true rfl) ?_
      refine r_bipush (v := nI 9) C dL_law_866 (by decide) ?_
      refine r_istore (i := 12) C dL_law_868 (Nat.le_of_ble_eq_true rfl) ?_
      refine lawD1 C (KB := k + 330) (NB := n + 6600) c6 (by omega) (by omega) hR (fun k2 n2 b2 hk2 hn2 W2 => ?_) 10 _ _ _ (Nat.le_refl 10) (by omega) (by rw [show cS 600 10 = 6000 from rfl]; omega) W'
      obtain ⟨⟨k0, l0, d0⟩, ⟨k1, l1, d1⟩, ⟨k2, l2, d2⟩, ⟨k3, l3, d3⟩, k4, l4, d4⟩ := wo_ar W2
      have d0 : hA b2 a = fd := d0
      have d1 : hA b2 (a + 1) = fw := d1
      have d2 : hA b2 (a + 2) = fh := d2
      have d3 : hA b2 (a + 3) = fa := d3
      have d4 : hA b2 (a + 4) = ft := d4
      obtain ⟨x, hx, ex⟩ := hR.2.2.2.2.2.2.2.1 r c6
      refine r_iload (i := 9) C dL_law_931 rfl ?_
      refine r_if_eq (tgt := 960) C dL_law_933 (by decide) (fun c => ?_) (fun c => ?_)
      · exact absurd c (by decide)
      refine r_aload_n (i := 2) C dL_law_936 rfl rfl (by first | rfl | exact isR_rf _) ?_
      refine r_bipush (v := 6) C dL_law_937 (by decide) ?_
      refine r_iload (i := 10) C dL_law_939 rfl ?_
      refine r_aload (i := 6) C dL_law_941 rfl (by first | rfl | exact isR_rf _) ?_
      refine r_iload (i := 10) C dL_law_943 rfl ?_
      refine r_iald (j := r) C dL_law_945 k3 rfl (by rw [l3]; omega) ?_
      rw [d3, ex]
      refine r_iconst (v := 0) C dL_law_946 (by decide) ?_
      refine r_iconst (v := 0) C dL_law_947 (by decide) ?_
      refine r_iconst (v := 0) C dL_law_948 (by decide) ?_
      obtain ⟨b3, M3, W3⟩ := wo_q W2 (fun P gb h => st_ask (l := lOf X) (r := r) (x := x) gb h (Nat.lt_succ_self r) hx)
      rw [va_up_self] at M3
      refine r_callHs C s_L_87 M3 dL_law_949 (As := [_, _, _, _, _, _, _]) rfl rfl rfl (Nat.le_of_ble_eq_true rfl) (Nat.le_of_ble_eq_true rfl) (kc9 ?_) (ks9 ?_) ?_
      · omega
      · omega
      refine r_iconst (v := (-1)) C dL_law_952 (by decide) ?_
      refine r_ic_ne (tgt := 960) C dL_law_953 (by decide) (fun c => ?_) (fun c => ?_)
      · exact absurd rfl c
      refine r_iconst (v := 1) C dL_law_956 (by decide) ?_
      refine r_goto (tgt := 961) C dL_law_957 (by decide) ?_
      refine r_istore (i := 9) C dL_law_961 (Nat.le_of_ble_eq_true rfl) ?_
      refine r_iinc1 (i := 10) C dL_law_963 rfl ?_
      rw [nI_1]
      refine r_goto (tgt := 760) C dL_law_966 (by decide) ?_
      rw [← ex, aqr_s, gR_r] at W3
      exact ih (r + 1) _ _ _ _ _ _ _ _ _ _ _ _ (by omega) (by omega) (by omega) W3
    have J1 : ∀ x : Int32, x = rt (gOf X) r → wr X (k + 0) (n + 0) 802 [.ref 0, .ref Ho, .ref Hq, .ref a, .ref (a + 1), .ref (a + 2), .ref (a + 3), .ref (a + 4), .int w, .int 1, .int (nI r), .int (nI (drw (gOf X) (10 + r))), u12, u13, u14, u15, u16, u17, u18, u19] [.int x, .ref Hq] b := fun x hx => by
      subst hx
      refine r_iload (i := 11) C dL_law_802 rfl ?_
      refine r_bipush (v := nI 18) C dL_law_804 (by decide) ?_
      refine r_divN C dL_law_806 (by omega) (by omega) (by omega) ?_
      refine r_iconst (v := nI 4) C dL_law_807 (by decide) ?_
      refine r_remN C dL_law_808 (by omega) (by omega) (by omega) ?_
      refine r_iload (i := 11) C dL_law_809 rfl ?_
      refine r_bipush (v := nI 72) C dL_law_811 (by decide) ?_
      refine r_divN C dL_law_813 (by omega) (by omega) (by omega) ?_
      refine r_iconst (v := nI 2) C dL_law_814 (by decide) ?_
      refine r_remN C dL_law_815 (by omega) (by omega) (by omega) ?_
      refine r_bipush (v := nI 8) C dL_law_816 (by decide) ?_
      refine r_mulN C dL_law_818 ?_
      refine r_iload (i := 11) C dL_law_819 rfl ?_
      refine r_sipush (v := nI 144) C dL_law_821 (by decide) ?_
      refine r_divN C dL_law_824 (by omega) (by omega) (by omega) ?_
      refine r_iconst (v := nI 2) C dL_law_825 (by decide) ?_
      refine r_remN C dL_law_826 (by omega) (by omega) (by omega) ?_
      refine r_iload (i := 11) C dL_law_827 rfl ?_
      refine r_sipush (v := nI 288) C dL_law_829 (by decide) ?_
      refine r_divN C dL_law_832 (by omega) (by omega) (by omega) ?_
      refine r_iconst (v := nI 3) C dL_law_833 (by decide) ?_
      refine r_remN C dL_law_834 (by omega) (by omega) (by omega) ?_
      refine r_iload (i := 11) C dL_law_835 rfl ?_
      refine r_sipush (v := nI 864) C dL_law_837 (by decide) ?_
      refine r_divN C dL_law_840 (by omega) (by omega) (by omega) ?_
      refine r_iconst (v := nI 3) C dL_law_841 (by decide) ?_
      refine r_remN C dL_law_842 (by omega) (by omega) (by omega) ?_
      refine r_if_ne (tgt := 850) C dL_law_843 (by decide) (fun c => ?_) (fun c => ?_)
      · have c : ¬ drw (gOf X) (10 + r) / 864 % 3 = 0 := fun z => c (by rw [z]; rfl)
        refine r_iconst (v := 0) C dL_law_850 (by decide) ?_
        exact J2 _ (if_neg c).symm
      · have c : drw (gOf X) (10 + r) / 864 % 3 = 0 := (nI_eq (b := 0) (by omega) (by decide)).mp c
        refine r_iconst (v := 1) C dL_law_846 (by decide) ?_
        refine r_goto (tgt := 851) C dL_law_847 (by decide) ?_
        exact J2 _ (if_pos c).symm
    refine r_aload_n (i := 2) C dL_law_783 rfl rfl (by first | rfl | exact isR_rf _) ?_
    refine r_iload (i := 11) C dL_law_784 rfl ?_
    refine r_iconst (v := nI 3) C dL_law_786 (by decide) ?_
    refine r_remN C dL_law_787 (by omega) (by omega) (by omega) ?_
    refine r_if_ne (tgt := 801) C dL_law_788 (by decide) (fun c => ?_) (fun c => ?_)
    · have c : ¬ drw (gOf X) (10 + r) % 3 = 0 := fun z => c (by rw [z]; rfl)
      refine r_iconst (v := (-1)) C dL_law_801 (by decide) ?_
      exact J1 _ (if_neg c).symm
    · have c : drw (gOf X) (10 + r) % 3 = 0 := (nI_eq (b := 0) (by omega) (by decide)).mp c
      refine r_iload (i := 11) C dL_law_791 rfl ?_
      refine r_iconst (v := nI 3) C dL_law_793 (by decide) ?_
      refine r_divN C dL_law_794 (by omega) (by omega) (by omega) ?_
      refine r_bipush (v := nI 6) C dL_law_795 (by decide) ?_
      refine r_remN C dL_law_797 (by omega) (by omega) (by omega) ?_
      refine r_goto (tgt := 802) C dL_law_798 (by decide) ?_
      exact J1 _ (if_pos c).symm
