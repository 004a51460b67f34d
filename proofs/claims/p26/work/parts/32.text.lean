/-! ===== Text, Integer.bitCount, Part.weightAlone, Declaration.numberByVariable ===== -/
/-- the digits, the lowest one first, at most f of them -/
def dg : Nat → Nat → List Nat
  | 0, _ => []
  | f + 1, n => if n = 0 then [] else (n % 10) :: dg f (n / 10)
theorem dg_z (f : Nat) : dg f 0 = [] := by cases f <;> rfl
theorem dg_s {f n : Nat} (h : 0 < n) : dg (f + 1) n = (n % 10) :: dg f (n / 10) := if_neg (Nat.ne_of_gt h)
theorem c_countWords (l : Launch) (G : Gl) {h : Hp} {n : Nat} (hn : n < 2 ^ 31) : MRw l G yX9_countWords (.code yX9_countWords cX9_countWords 3 (Option.some Jvm.ClassFile.FieldType.int)) 0 0 0 [.int (nI n)] h (.inl (some (.int (if 0 ∈ dg 8 n then -1 else nI (dg 8 n).length)), h)) := by
  refine mr_of (by decide +kernel) (Nat.le_of_ble_eq_true rfl) (ct1 (by first | rfl | exact isR_cat (isR_rf _))) (fun X hG hl C E => ?_)
  subst hG hl
  have hloop : ∀ (m r c : Nat), c + m = 8 → r < 2 ^ 31 → (0 ∈ dg 8 n ↔ 0 ∈ dg m r) → (dg 8 n).length = c + (dg m r).length → wr X 0 0 4 [.int (nI n), .int (nI c), .int (nI r)] [] h := by
    intro m
    induction m with
    | zero =>
      intro r c hc hr h0 h1
      have h0' : ¬ 0 ∈ dg 8 n := fun z => by have := h0.mp z; cases this
      rw [if_neg h0', h1] at E
      have : c = 8 := by omega
      subst this
      refine r_iload_n (i := 1) C dX9_countWords_4 rfl rfl ?_
      refine r_bipush (v := 8) C dX9_countWords_5 (by decide) ?_
      refine rn_ic_ge C 8 8 rfl rfl (by decide) (by decide) (tgt := 34) dX9_countWords_7 (by decide) (fun _ => ?_) (fun q => absurd q (by omega))
      refine r_iload_n (i := 1) C dX9_countWords_34 rfl rfl ?_
      exact r_iret C E dX9_countWords_35 rfl rfl (by first | exact Nat.le_refl _ | exact Nat.le_of_ble_eq_true rfl | omega) (by first | exact Nat.le_refl _ | exact Nat.le_of_ble_eq_true rfl | omega)
    | succ m ih =>
      intro r c hc hr h0 h1
      refine r_iload_n (i := 1) C dX9_countWords_4 rfl rfl ?_
      refine r_bipush (v := 8) C dX9_countWords_5 (by decide) ?_
      refine rn_ic_ge C c 8 rfl rfl (by omega) (by decide) (tgt := 34) dX9_countWords_7 (by decide) (fun q => absurd q (by omega)) (fun _ => ?_)
      refine r_iload_n (i := 2) C dX9_countWords_10 rfl rfl ?_
      refine r_if_le (tgt := 34) C dX9_countWords_11 (by decide) (fun c_11 => ?_) (fun c_11 => ?_)
      · have hz : r = 0 := by
          rcases Nat.eq_zero_or_pos r with z | z
          · exact z
          · exact absurd c_11 (nI_nle z hr)
        subst hz
        rw [dg_z] at h0 h1
        have h0' : ¬ 0 ∈ dg 8 n := fun z => by have := h0.mp z; cases this
        rw [if_neg h0', h1] at E
        refine r_iload_n (i := 1) C dX9_countWords_34 rfl rfl ?_
        exact r_iret C E dX9_countWords_35 rfl rfl (by first | exact Nat.le_refl _ | exact Nat.le_of_ble_eq_true rfl | omega) (by first | exact Nat.le_refl _ | exact Nat.le_of_ble_eq_true rfl | omega)
      · have hz : 0 < r := Nat.pos_of_ne_zero (fun z => c_11 (by rw [z]; exact Int32.le_refl _))
        rw [dg_s hz] at h0 h1
        refine r_iload_n (i := 2) C dX9_countWords_14 rfl rfl ?_
        refine r_bipush (v := 10) C dX9_countWords_15 (by decide) ?_
        refine r_irem C dX9_countWords_17 (by decide) ?_
        rw [show nI r - nI r / 10 * 10 = nI (r % 10) from pk_rem (d := 10) hr (by decide) (by decide)]
        refine r_if_ne (tgt := 23) C dX9_countWords_18 (by decide) (fun c_18 => ?_) (fun c_18 => ?_)
        · refine r_iload_n (i := 2) C dX9_countWords_23 rfl rfl ?_
          refine r_bipush (v := 10) C dX9_countWords_24 (by decide) ?_
          refine r_idiv C dX9_countWords_26 (by decide) ?_
          rw [show nI r / 10 = nI (r / 10) from pk_div (d := 10) hr (by decide) (by decide)]
          refine r_istore_n (i := 2) C dX9_countWords_27 rfl (Nat.le_of_ble_eq_true rfl) ?_
          refine r_iinc1 (i := 1) C dX9_countWords_28 rfl ?_
          rw [nI_1]
          refine r_goto (tgt := 4) C dX9_countWords_31 (by decide) ?_
          have hnz : r % 10 ≠ 0 := fun z => c_18 (by rw [z]; rfl)
          exact ih (r / 10) (c + 1) (by omega) (by omega) (h0.trans ⟨fun z => by
            rcases List.mem_cons.mp z with z | z
            · exact absurd z.symm hnz
            · exact z, fun z => List.mem_cons_of_mem _ z⟩) (by rw [h1, List.length_cons]; omega)
        · have hz0 : r % 10 = 0 := (nI_eq (by omega) (by decide)).mp c_18
          have h0' : 0 ∈ dg 8 n := h0.mpr (by rw [hz0]; exact List.mem_cons_self)
          rw [if_pos h0'] at E
          refine r_iconst (v := (-1)) C dX9_countWords_21 (by decide) ?_
          exact r_iret C E dX9_countWords_22 rfl rfl (by first | exact Nat.le_refl _ | exact Nat.le_of_ble_eq_true rfl | omega) (by first | exact Nat.le_refl _ | exact Nat.le_of_ble_eq_true rfl | omega)
  refine r_iconst (v := 0) C dX9_countWords_0 (by decide) ?_
  refine r_istore_n (i := 1) C dX9_countWords_1 rfl (Nat.le_of_ble_eq_true rfl) ?_
  refine r_iload_n (i := 0) C dX9_countWords_2 rfl rfl ?_
  refine r_istore_n (i := 2) C dX9_countWords_3 rfl (Nat.le_of_ble_eq_true rfl) ?_
  exact hloop 8 n 0 rfl hn Iff.rfl (by omega)
def mxI (a b : Int32) : Int32 := if a < b then b else a
theorem c_longestWord (l : Launch) (G : Gl) {h : Hp} {n : Nat} (hn : n < 2 ^ 31) : MRw l G yX9_longestWord (.code yX9_longestWord cX9_longestWord 4 (Option.some Jvm.ClassFile.FieldType.int)) 1 0 0 [.int (nI n)] h (.inl (some (.int ((dg 8 n).foldl (fun s w => mxI s (nI w)) 0)), h)) := by
  refine mr_of (by decide +kernel) (Nat.le_of_ble_eq_true rfl) (ct1 (by first | rfl | exact isR_cat (isR_rf _))) (fun X hG hl C E => ?_)
  subst hG hl
  have hloop : ∀ (m r c : Nat) (s : Int32), c + m = 8 → r < 2 ^ 31 → (dg 8 n).foldl (fun s w => mxI s (nI w)) 0 = (dg m r).foldl (fun s w => mxI s (nI w)) s → wr X 0 0 6 [.int (nI n), .int s, .int (nI r), .int (nI c)] [] h := by
    intro m
    induction m with
    | zero =>
      intro r c s hc hr h0
      rw [h0] at E
      have : c = 8 := by omega
      subst this
      refine r_iload_n (i := 3) C dX9_longestWord_6 rfl rfl ?_
      refine r_bipush (v := 8) C dX9_longestWord_7 (by decide) ?_
      refine rn_ic_ge C 8 8 rfl rfl (by decide) (by decide) (tgt := 36) dX9_longestWord_9 (by decide) (fun _ => ?_) (fun q => absurd q (by omega))
      refine r_iload_n (i := 1) C dX9_longestWord_36 rfl rfl ?_
      exact r_iret C E dX9_longestWord_37 rfl rfl (by first | exact Nat.le_refl _ | exact Nat.le_of_ble_eq_true rfl | omega) (by first | exact Nat.le_refl _ | exact Nat.le_of_ble_eq_true rfl | omega)
    | succ m ih =>
      intro r c s hc hr h0
      refine r_iload_n (i := 3) C dX9_longestWord_6 rfl rfl ?_
      refine r_bipush (v := 8) C dX9_longestWord_7 (by decide) ?_
      refine rn_ic_ge C c 8 rfl rfl (by omega) (by decide) (tgt := 36) dX9_longestWord_9 (by decide) (fun q => absurd q (by omega)) (fun _ => ?_)
      refine r_iload_n (i := 2) C dX9_longestWord_12 rfl rfl ?_
      refine r_if_le (tgt := 36) C dX9_longestWord_13 (by decide) (fun c_13 => ?_) (fun c_13 => ?_)
      · have hz : r = 0 := by
          rcases Nat.eq_zero_or_pos r with z | z
          · exact z
          · exact absurd c_13 (nI_nle z hr)
        subst hz
        rw [dg_z] at h0
        rw [h0] at E
        refine r_iload_n (i := 1) C dX9_longestWord_36 rfl rfl ?_
        exact r_iret C E dX9_longestWord_37 rfl rfl (by first | exact Nat.le_refl _ | exact Nat.le_of_ble_eq_true rfl | omega) (by first | exact Nat.le_refl _ | exact Nat.le_of_ble_eq_true rfl | omega)
      · have hz : 0 < r := Nat.pos_of_ne_zero (fun z => c_13 (by rw [z]; exact Int32.le_refl _))
        rw [dg_s hz] at h0
        refine r_iload_n (i := 1) C dX9_longestWord_16 rfl rfl ?_
        refine r_iload_n (i := 2) C dX9_longestWord_17 rfl rfl ?_
        refine r_bipush (v := 10) C dX9_longestWord_18 (by decide) ?_
        refine r_irem C dX9_longestWord_20 (by decide) ?_
        rw [show nI r - nI r / 10 * 10 = nI (r % 10) from pk_rem (d := 10) hr (by decide) (by decide)]
        refine r_mmax C dX9_longestWord_21 (by first | exact Nat.le_refl _ | exact Nat.le_of_ble_eq_true rfl | omega) rfl (Nat.le_of_ble_eq_true rfl) l_X9_9 w_maxS w_mathI w_maxC (by first | exact Nat.le_refl _ | exact Nat.le_of_ble_eq_true rfl | omega) (by first | exact Nat.le_refl _ | exact Nat.le_of_ble_eq_true rfl | omega) ?_
        refine r_istore_n (i := 1) C dX9_longestWord_24 rfl (Nat.le_of_ble_eq_true rfl) ?_
        refine r_iload_n (i := 2) C dX9_longestWord_25 rfl rfl ?_
        refine r_bipush (v := 10) C dX9_longestWord_26 (by decide) ?_
        refine r_idiv C dX9_longestWord_28 (by decide) ?_
        rw [show nI r / 10 = nI (r / 10) from pk_div (d := 10) hr (by decide) (by decide)]
        refine r_istore_n (i := 2) C dX9_longestWord_29 rfl (Nat.le_of_ble_eq_true rfl) ?_
        refine r_iinc1 (i := 3) C dX9_longestWord_30 rfl ?_
        rw [nI_1]
        refine r_goto (tgt := 6) C dX9_longestWord_33 (by decide) ?_
        exact ih (r / 10) (c + 1) _ (by omega) (by omega) h0
  refine r_iconst (v := 0) C dX9_longestWord_0 (by decide) ?_
  refine r_istore_n (i := 1) C dX9_longestWord_1 rfl (Nat.le_of_ble_eq_true rfl) ?_
  refine r_iload_n (i := 0) C dX9_longestWord_2 rfl rfl ?_
  refine r_istore_n (i := 2) C dX9_longestWord_3 rfl (Nat.le_of_ble_eq_true rfl) ?_
  refine r_iconst (v := 0) C dX9_longestWord_4 (by decide) ?_
  refine r_istore_n (i := 3) C dX9_longestWord_5 rfl (Nat.le_of_ble_eq_true rfl) ?_
  exact hloop 8 n 0 0 rfl hn rfl
/-- one word more on the lines: lines and how far the last one is used -/
def clS (size width : Int32) (s : Int32 × Int32) (w : Nat) : Int32 × Int32 :=
  if s.1 ≤ 0 then (s.1 + 1, nI w * size) else if width < s.2 + size + nI w * size then (s.1 + 1, nI w * size) else (s.1, s.2 + (size + nI w * size))
theorem c_countLines (l : Launch) (G : Gl) {h : Hp} {n : Nat} {size width : Int32} (hn : n < 2 ^ 31) : MRw l G yX9_countLines (.code yX9_countLines cX9_countLines 8 (Option.some Jvm.ClassFile.FieldType.int)) 0 0 0 [.int (nI n), .int size, .int width] h (.inl (some (.int ((dg 8 n).foldl (clS size width) (0, 0)).1), h)) := by
  refine mr_of (by decide +kernel) (Nat.le_of_ble_eq_true rfl) (ct3 (by first | rfl | exact isR_cat (isR_rf _)) (by first | rfl | exact isR_cat (isR_rf _)) (by first | rfl | exact isR_cat (isR_rf _))) (fun X hG hl C E => ?_)
  subst hG hl
  have hloop : ∀ (m r c : Nat) (s u : Int32) (v7 : Value), c + m = 8 → r < 2 ^ 31 → (dg 8 n).foldl (clS size width) (0, 0) = (dg m r).foldl (clS size width) (s, u) → wr X 0 0 11 [.int (nI n), .int size, .int width, .int s, .int u, .int (nI r), .int (nI c), v7] [] h := by
    intro m
    induction m with
    | zero =>
      intro r c s u v7 hc hr h0
      rw [h0] at E
      have : c = 8 := by omega
      subst this
      refine r_iload (i := 6) C dX9_countLines_11 rfl ?_
      refine r_bipush (v := 8) C dX9_countLines_13 (by decide) ?_
      refine rn_ic_ge C 8 8 rfl rfl (by decide) (by decide) (tgt := 79) dX9_countLines_15 (by decide) (fun _ => ?_) (fun q => absurd q (by omega))
      refine r_iload_n (i := 3) C dX9_countLines_79 rfl rfl ?_
      exact r_iret C E dX9_countLines_80 rfl rfl (by first | exact Nat.le_refl _ | exact Nat.le_of_ble_eq_true rfl | omega) (by first | exact Nat.le_refl _ | exact Nat.le_of_ble_eq_true rfl | omega)
    | succ m ih =>
      intro r c s u v7 hc hr h0
      refine r_iload (i := 6) C dX9_countLines_11 rfl ?_
      refine r_bipush (v := 8) C dX9_countLines_13 (by decide) ?_
      refine rn_ic_ge C c 8 rfl rfl (by omega) (by decide) (tgt := 79) dX9_countLines_15 (by decide) (fun q => absurd q (by omega)) (fun _ => ?_)
      refine r_iload (i := 5) C dX9_countLines_18 rfl ?_
      refine r_if_le (tgt := 79) C dX9_countLines_20 (by decide) (fun c_20 => ?_) (fun c_20 => ?_)
      · have hz : r = 0 := by
          rcases Nat.eq_zero_or_pos r with z | z
          · exact z
          · exact absurd c_20 (nI_nle z hr)
        subst hz
        rw [dg_z] at h0
        rw [h0] at E
        refine r_iload_n (i := 3) C dX9_countLines_79 rfl rfl ?_
        exact r_iret C E dX9_countLines_80 rfl rfl (by first | exact Nat.le_refl _ | exact Nat.le_of_ble_eq_true rfl | omega) (by first | exact Nat.le_refl _ | exact Nat.le_of_ble_eq_true rfl | omega)
      · have hz : 0 < r := Nat.pos_of_ne_zero (fun z => c_20 (by rw [z]; exact Int32.le_refl _))
        rw [dg_s hz, List.foldl_cons] at h0
        refine r_iload (i := 5) C dX9_countLines_23 rfl ?_
        refine r_bipush (v := 10) C dX9_countLines_25 (by decide) ?_
        refine r_irem C dX9_countLines_27 (by decide) ?_
        rw [show nI r - nI r / 10 * 10 = nI (r % 10) from pk_rem (d := 10) hr (by decide) (by decide)]
        refine r_iload_n (i := 1) C dX9_countLines_28 rfl rfl ?_
        refine r_imul C dX9_countLines_29 ?_
        refine r_istore (i := 7) C dX9_countLines_30 (Nat.le_of_ble_eq_true rfl) ?_
        refine r_iload_n (i := 3) C dX9_countLines_32 rfl rfl ?_
        have hz2 : ∀ (s' u' : Int32), clS size width (s, u) (r % 10) = (s', u') → wr X 0 0 66 [.int (nI n), .int size, .int width, .int s', .int u', .int (nI r), .int (nI c), .int (nI (r % 10) * size)] [] h := by
          intro s' u' hS
          rw [hS] at h0
          refine r_iload (i := 5) C dX9_countLines_66 rfl ?_
          refine r_bipush (v := 10) C dX9_countLines_68 (by decide) ?_
          refine r_idiv C dX9_countLines_70 (by decide) ?_
          rw [show nI r / 10 = nI (r / 10) from pk_div (d := 10) hr (by decide) (by decide)]
          refine r_istore (i := 5) C dX9_countLines_71 (Nat.le_of_ble_eq_true rfl) ?_
          refine r_iinc1 (i := 6) C dX9_countLines_73 rfl ?_
          rw [nI_1]
          refine r_goto (tgt := 11) C dX9_countLines_76 (by decide) ?_
          exact ih (r / 10) (c + 1) _ _ _ (by omega) (by omega) h0
        refine r_if_le (tgt := 59) C dX9_countLines_33 (by decide) (fun c_33 => ?_) (fun c_33 => ?_)
        · refine r_iinc1 (i := 3) C dX9_countLines_59 rfl ?_
          refine r_iload (i := 7) C dX9_countLines_62 rfl ?_
          refine r_istore (i := 4) C dX9_countLines_64 (Nat.le_of_ble_eq_true rfl) ?_
          exact hz2 _ _ (if_pos c_33)
        · refine r_iload (i := 4) C dX9_countLines_36 rfl ?_
          refine r_iload_n (i := 1) C dX9_countLines_38 rfl rfl ?_
          refine r_iadd C dX9_countLines_39 ?_
          refine r_iload (i := 7) C dX9_countLines_40 rfl ?_
          refine r_iadd C dX9_countLines_42 ?_
          refine r_iload_n (i := 2) C dX9_countLines_43 rfl rfl ?_
          refine r_ic_gt (tgt := 59) C dX9_countLines_44 (by decide) (fun c_44 => ?_) (fun c_44 => ?_)
          · refine r_iinc1 (i := 3) C dX9_countLines_59 rfl ?_
            refine r_iload (i := 7) C dX9_countLines_62 rfl ?_
            refine r_istore (i := 4) C dX9_countLines_64 (Nat.le_of_ble_eq_true rfl) ?_
            exact hz2 _ _ (by unfold clS; rw [if_neg c_33]; exact if_pos c_44)
          · refine r_iload (i := 4) C dX9_countLines_47 rfl ?_
            refine r_iload_n (i := 1) C dX9_countLines_49 rfl rfl ?_
            refine r_iload (i := 7) C dX9_countLines_50 rfl ?_
            refine r_iadd C dX9_countLines_52 ?_
            refine r_iadd C dX9_countLines_53 ?_
            refine r_istore (i := 4) C dX9_countLines_54 (Nat.le_of_ble_eq_true rfl) ?_
            refine r_goto (tgt := 66) C dX9_countLines_56 (by decide) ?_
            exact hz2 _ _ (by unfold clS; rw [if_neg c_33]; exact if_neg c_44)
  refine r_iconst (v := 0) C dX9_countLines_0 (by decide) ?_
  refine r_istore_n (i := 3) C dX9_countLines_1 rfl (Nat.le_of_ble_eq_true rfl) ?_
  refine r_iconst (v := 0) C dX9_countLines_2 (by decide) ?_
  refine r_istore (i := 4) C dX9_countLines_3 (Nat.le_of_ble_eq_true rfl) ?_
  refine r_iload_n (i := 0) C dX9_countLines_5 rfl rfl ?_
  refine r_istore (i := 5) C dX9_countLines_6 (Nat.le_of_ble_eq_true rfl) ?_
  refine r_iconst (v := 0) C dX9_countLines_8 (by decide) ?_
  refine r_istore (i := 6) C dX9_countLines_9 (Nat.le_of_ble_eq_true rfl) ?_
  exact hloop 8 n 0 0 0 _ rfl hn rfl
def us (x z : Int32) : Int32 := (x.toUInt32 >>> (z.toUInt32 &&& Int32.toUInt32 31)).toInt32
def bcA (x : Int32) : Int32 := x - (us x 1 &&& 1431655765)
def bcB (x : Int32) : Int32 := (x &&& 858993459) + (us x 2 &&& 858993459)
def bcC (x : Int32) : Int32 := (x + us x 4) &&& 252645135
def bcD (x : Int32) : Int32 := x + us x 8
def bcE (x : Int32) : Int32 := (x + us x 16) &&& 63
def bitC (x : Int32) : Int32 := bcE (bcD (bcC (bcB (bcA x))))
theorem c_bitCount (l : Launch) (G : Gl) {h : Hp} {x : Int32} : MRw l G yJ6_bitCount_0f7a4 (.code yJ6_bitCount_0f7a4 cJ6_bitCount_0f7a4 1 (Option.some Jvm.ClassFile.FieldType.int)) 0 0 0 [.int x] h (.inl (some (.int (bitC x)), h)) := by
  refine mr_of (by decide +kernel) (Nat.le_of_ble_eq_true rfl) (ct1 (by first | rfl | exact isR_cat (isR_rf _))) (fun X hG hl C E => ?_)
  subst hG hl
  refine r_iload_n (i := 0) C dJ6_bitCount_0f7a4_0 rfl rfl ?_
  refine r_iload_n (i := 0) C dJ6_bitCount_0f7a4_1 rfl rfl ?_
  refine r_iconst (v := 1) C dJ6_bitCount_0f7a4_2 (by decide) ?_
  refine r_iushr C dJ6_bitCount_0f7a4_3 rfl ?_
  refine r_ldcwI C dJ6_bitCount_0f7a4_4 q_J6_265 ?_
  refine r_iand C dJ6_bitCount_0f7a4_7 ?_
  refine r_isub C dJ6_bitCount_0f7a4_8 ?_
  refine r_istore_n (i := 0) C dJ6_bitCount_0f7a4_9 rfl (Nat.le_of_ble_eq_true rfl) ?_
  refine r_iload_n (i := 0) C dJ6_bitCount_0f7a4_10 rfl rfl ?_
  refine r_ldcwI C dJ6_bitCount_0f7a4_11 q_J6_266 ?_
  refine r_iand C dJ6_bitCount_0f7a4_14 ?_
  refine r_iload_n (i := 0) C dJ6_bitCount_0f7a4_15 rfl rfl ?_
  refine r_iconst (v := 2) C dJ6_bitCount_0f7a4_16 (by decide) ?_
  refine r_iushr C dJ6_bitCount_0f7a4_17 rfl ?_
  refine r_ldcwI C dJ6_bitCount_0f7a4_18 q_J6_266 ?_
  refine r_iand C dJ6_bitCount_0f7a4_21 ?_
  refine r_iadd C dJ6_bitCount_0f7a4_22 ?_
  refine r_istore_n (i := 0) C dJ6_bitCount_0f7a4_23 rfl (Nat.le_of_ble_eq_true rfl) ?_
  refine r_iload_n (i := 0) C dJ6_bitCount_0f7a4_24 rfl rfl ?_
  refine r_iload_n (i := 0) C dJ6_bitCount_0f7a4_25 rfl rfl ?_
  refine r_iconst (v := 4) C dJ6_bitCount_0f7a4_26 (by decide) ?_
  refine r_iushr C dJ6_bitCount_0f7a4_27 rfl ?_
  refine r_iadd C dJ6_bitCount_0f7a4_28 ?_
  refine r_ldcwI C dJ6_bitCount_0f7a4_29 q_J6_267 ?_
  refine r_iand C dJ6_bitCount_0f7a4_32 ?_
  refine r_istore_n (i := 0) C dJ6_bitCount_0f7a4_33 rfl (Nat.le_of_ble_eq_true rfl) ?_
  refine r_iload_n (i := 0) C dJ6_bitCount_0f7a4_34 rfl rfl ?_
  refine r_iload_n (i := 0) C dJ6_bitCount_0f7a4_35 rfl rfl ?_
  refine r_bipush (v := 8) C dJ6_bitCount_0f7a4_36 (by decide) ?_
  refine r_iushr C dJ6_bitCount_0f7a4_38 rfl ?_
  refine r_iadd C dJ6_bitCount_0f7a4_39 ?_
  refine r_istore_n (i := 0) C dJ6_bitCount_0f7a4_40 rfl (Nat.le_of_ble_eq_true rfl) ?_
  refine r_iload_n (i := 0) C dJ6_bitCount_0f7a4_41 rfl rfl ?_
  refine r_iload_n (i := 0) C dJ6_bitCount_0f7a4_42 rfl rfl ?_
  refine r_bipush (v := 16) C dJ6_bitCount_0f7a4_43 (by decide) ?_
  refine r_iushr C dJ6_bitCount_0f7a4_45 rfl ?_
  refine r_iadd C dJ6_bitCount_0f7a4_46 ?_
  refine r_istore_n (i := 0) C dJ6_bitCount_0f7a4_47 rfl (Nat.le_of_ble_eq_true rfl) ?_
  refine r_iload_n (i := 0) C dJ6_bitCount_0f7a4_48 rfl rfl ?_
  refine r_bipush (v := 63) C dJ6_bitCount_0f7a4_49 (by decide) ?_
  refine r_iand C dJ6_bitCount_0f7a4_51 ?_
  exact r_iret C E dJ6_bitCount_0f7a4_52 rfl rfl (by first | exact Nat.le_refl _ | exact Nat.le_of_ble_eq_true rfl | omega) (by first | exact Nat.le_refl _ | exact Nat.le_of_ble_eq_true rfl | omega)
def wei (h : Hp) (q : Nat) : Int32 := 10 * (bitC (hI h fP_has q) + bitC (hI h fP_lacks q)) + (if hI h fP_tag q = -1 then 0 else 1)
theorem c_weightAlone (l : Launch) (G : Gl) {h : Hp} {q : Nat} (hk : hK h q = 5) : MRw l G yX5_weightAlone (.code yX5_weightAlone cX5_weightAlone 1 (Option.some Jvm.ClassFile.FieldType.int)) 1 0 0 [.ref q] h (.inl (some (.int (wei h q)), h)) := by
  refine mr_of (by decide +kernel) (Nat.le_of_ble_eq_true rfl) (ct1 (by first | rfl | exact isR_cat (isR_rf _))) (fun X hG hl C E => ?_)
  subst hG hl
  unfold wei at E
  refine r_bipush (v := 10) C dX5_weightAlone_0 (by decide) ?_
  refine r_aload_n (i := 0) C dX5_weightAlone_2 rfl rfl (by first | rfl | exact isR_rf _) ?_
  refine r_getI C f_X5_18 dX5_weightAlone_3 rfl (by assumption) ?_
  refine r_callSs C s_X5_30 (c_bitCount _ _) dX5_weightAlone_6 (As := [_]) rfl rfl rfl (by first | exact Nat.le_refl _ | exact Nat.le_of_ble_eq_true rfl | omega) (Nat.le_of_ble_eq_true rfl) (by first | exact Nat.le_refl _ | exact Nat.le_of_ble_eq_true rfl | omega) (by first | exact Nat.le_refl _ | exact Nat.le_of_ble_eq_true rfl | omega) ?_
  refine r_aload_n (i := 0) C dX5_weightAlone_9 rfl rfl (by first | rfl | exact isR_rf _) ?_
  refine r_getI C f_X5_21 dX5_weightAlone_10 rfl (by assumption) ?_
  refine r_callSs C s_X5_30 (c_bitCount _ _) dX5_weightAlone_13 (As := [_]) rfl rfl rfl (by first | exact Nat.le_refl _ | exact Nat.le_of_ble_eq_true rfl | omega) (Nat.le_of_ble_eq_true rfl) (by first | exact Nat.le_refl _ | exact Nat.le_of_ble_eq_true rfl | omega) (by first | exact Nat.le_refl _ | exact Nat.le_of_ble_eq_true rfl | omega) ?_
  refine r_iadd C dX5_weightAlone_16 ?_
  refine r_imul C dX5_weightAlone_17 ?_
  refine r_aload_n (i := 0) C dX5_weightAlone_18 rfl rfl (by first | rfl | exact isR_rf _) ?_
  refine r_getI C f_X5_15 dX5_weightAlone_19 rfl (by assumption) ?_
  refine r_iconst (v := (-1)) C dX5_weightAlone_22 (by decide) ?_
  refine r_ic_ne (tgt := 30) C dX5_weightAlone_23 (by decide) (fun c_23 => ?_) (fun c_23 => ?_)
  · rw [if_neg c_23] at E
    refine r_iconst (v := 1) C dX5_weightAlone_30 (by decide) ?_
    refine r_iadd C dX5_weightAlone_31 ?_
    exact r_iret C E dX5_weightAlone_32 rfl rfl (by first | exact Nat.le_refl _ | exact Nat.le_of_ble_eq_true rfl | omega) (by first | exact Nat.le_refl _ | exact Nat.le_of_ble_eq_true rfl | omega)
  · rw [if_pos c_23] at E
    refine r_iconst (v := 0) C dX5_weightAlone_26 (by decide) ?_
    refine r_goto (tgt := 31) C dX5_weightAlone_27 (by decide) ?_
    refine r_iadd C dX5_weightAlone_31 ?_
    exact r_iret C E dX5_weightAlone_32 rfl rfl (by first | exact Nat.le_refl _ | exact Nat.le_of_ble_eq_true rfl | omega) (by first | exact Nat.le_refl _ | exact Nat.le_of_ble_eq_true rfl | omega)
/-- the number that a variable's value t makes of the property, else the fallback -/
def nbv (p : Nat) (t u : Int32) : Int32 := if t = -1 then u else if pLe (pq p) ≤ t ∧ t ≤ pGr (pq p) then t else u
theorem c_numberBV (l : Launch) (G : Gl) {h : Hp} {d p k v s w : Nat} (hd : hK h d = 2) (hp : p ≤ 14) (hO : LO h k v s) (hw : w < 4) (hv : hI h fD_variable d = nI w) : MRw l G yX1_numberByVariable (.code yX1_numberByVariable cX1_numberByVariable 4 (Option.some Jvm.ClassFile.FieldType.int)) 1 0 0 [.ref d, .int (nI p), .ref k] h (.inl (some (.int (nbv p (hA h v (10 + w)) (hI h fD_number d))), h)) := by
  have hk := hO.1
  refine mr_of (by decide +kernel) (Nat.le_of_ble_eq_true rfl) (ct3 (by first | rfl | exact isR_cat (isR_rf _)) (by first | rfl | exact isR_cat (isR_rf _)) (by first | rfl | exact isR_cat (isR_rf _))) (fun X hG hl C E => ?_)
  subst hG hl
  unfold nbv at E
  refine r_aload_n (i := 2) C dX1_numberByVariable_0 rfl rfl (by first | rfl | exact isR_rf _) ?_
  refine r_bipush (v := 10) C dX1_numberByVariable_1 (by decide) ?_
  refine r_aload_n (i := 0) C dX1_numberByVariable_3 rfl rfl (by first | rfl | exact isR_rf _) ?_
  refine r_getI C f_X1_18 dX1_numberByVariable_4 rfl (by assumption) ?_
  refine r_iadd C dX1_numberByVariable_7 ?_
  rw [hv, show (10 : Int32) + nI w = nI (10 + w) from nI_add 10 w]
  refine r_callVs C v_X1_21 (c_valueOf _ _ hO (p := 10 + w) (by omega)) dX1_numberByVariable_8 (by assumption) (ci := 4) (by decide) rfl rfl (As := [_]) rfl rfl rfl (by first | exact Nat.le_refl _ | exact Nat.le_of_ble_eq_true rfl | omega) (Nat.le_of_ble_eq_true rfl) (by first | exact Nat.le_refl _ | exact Nat.le_of_ble_eq_true rfl | omega) (by first | exact Nat.le_refl _ | exact Nat.le_of_ble_eq_true rfl | omega) ?_
  refine r_istore_n (i := 3) C dX1_numberByVariable_11 rfl (Nat.le_of_ble_eq_true rfl) ?_
  refine r_iload_n (i := 3) C dX1_numberByVariable_12 rfl rfl ?_
  refine r_iconst (v := (-1)) C dX1_numberByVariable_13 (by decide) ?_
  refine r_ic_eq (tgt := 29) C dX1_numberByVariable_14 (by decide) (fun c_14 => ?_) (fun c_14 => ?_)
  · rw [if_pos c_14] at E
    refine r_aload_n (i := 0) C dX1_numberByVariable_29 rfl rfl (by first | rfl | exact isR_rf _) ?_
    refine r_getI C f_X1_15 dX1_numberByVariable_30 rfl (by assumption) ?_
    exact r_iret C E dX1_numberByVariable_33 rfl rfl (by first | exact Nat.le_refl _ | exact Nat.le_of_ble_eq_true rfl | omega) (by first | exact Nat.le_refl _ | exact Nat.le_of_ble_eq_true rfl | omega)
  · rw [if_neg c_14] at E
    refine r_iload_n (i := 1) C dX1_numberByVariable_17 rfl rfl ?_
    refine r_iload_n (i := 3) C dX1_numberByVariable_18 rfl rfl ?_
    refine r_callSs C s_X1_27 (c_canBe _ _ hp) dX1_numberByVariable_19 (As := [_, _]) rfl rfl rfl (by first | exact Nat.le_refl _ | exact Nat.le_of_ble_eq_true rfl | omega) (Nat.le_of_ble_eq_true rfl) (by first | exact Nat.le_refl _ | exact Nat.le_of_ble_eq_true rfl | omega) (by first | exact Nat.le_refl _ | exact Nat.le_of_ble_eq_true rfl | omega) ?_
    refine r_if_eq (tgt := 29) C dX1_numberByVariable_22 (by decide) (fun c_22 => ?_) (fun c_22 => ?_)
    · have hc : ¬ (pLe (pq p) ≤ hA h v (10 + w) ∧ hA h v (10 + w) ≤ pGr (pq p)) := fun z => by rw [if_pos z] at c_22; exact absurd c_22 (by decide)
      rw [if_neg hc] at E
      refine r_aload_n (i := 0) C dX1_numberByVariable_29 rfl rfl (by first | rfl | exact isR_rf _) ?_
      refine r_getI C f_X1_15 dX1_numberByVariable_30 rfl (by assumption) ?_
      exact r_iret C E dX1_numberByVariable_33 rfl rfl (by first | exact Nat.le_refl _ | exact Nat.le_of_ble_eq_true rfl | omega) (by first | exact Nat.le_refl _ | exact Nat.le_of_ble_eq_true rfl | omega)
    · have hc : pLe (pq p) ≤ hA h v (10 + w) ∧ hA h v (10 + w) ≤ pGr (pq p) := Decidable.byContradiction fun z => c_22 (if_neg z)
      rw [if_pos hc] at E
      refine r_iload_n (i := 3) C dX1_numberByVariable_25 rfl rfl ?_
      refine r_goto (tgt := 33) C dX1_numberByVariable_26 (by decide) ?_
      exact r_iret C E dX1_numberByVariable_33 rfl rfl (by first | exact Nat.le_refl _ | exact Nat.le_of_ble_eq_true rfl | omega) (by first | exact Nat.le_refl _ | exact Nat.le_of_ble_eq_true rfl | omega)
