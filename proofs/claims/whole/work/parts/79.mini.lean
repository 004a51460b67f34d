/-! ===== the model's <init> ===== -/
def aFk (j : Nat) : Nat := ([4, 5, 6, 7, 8, 9, 11, 12, 13, 14, 15, 16, 17, 18, 19, 20, 21, 22, 23, 24, 25, 26, 27, 28, 30, 31, 32, 34, 35, 36, 37, 38, 39] : List Nat).getD j 0
def aLn (j : Nat) : Nat := ([24, 24, 24, 24, 24, 24, 16, 48, 48, 48, 48, 16, 16, 16, 16, 224, 224, 224, 336, 336, 96, 24, 24, 24, 24, 336, 96, 24, 24, 16, 4, 24, 24] : List Nat).getD j 0
def aKd (j : Nat) : Nat := ([100, 100, 100, 100, 100, 101, 100, 100, 100, 100, 100, 100, 100, 101, 100, 100, 100, 100, 100, 100, 100, 100, 100, 101, 100, 100, 100, 100, 101, 101, 100, 100, 101] : List Nat).getD j 0
/-- the first j rows made -/
def aiH (m : Nat) (h : Hp) : Nat → Hp
  | 0 => h
  | j + 1 => sR (nw (aiH m h j) (aKd j) (aLn j)) (640 + aFk j) m (some (hN h + j))
theorem aFk_ok : ∀ j, j < 33 → marr (aFk j) = true ∧ mad (aFk j) = j + 1 ∧ mln (aFk j) = aLn j ∧ (if mbo (aFk j) = true then 101 else 100) = aKd j := by decide
theorem aFk_of {k : Nat} (h : marr k = true) : ∃ j, j < 33 ∧ aFk j = k := by
  have h1 := mad_ok h
  refine ⟨mad k - 1, by omega, ?_⟩
  have := (aFk_ok (mad k - 1) (by omega)).2.1
  have e : mad (aFk (mad k - 1)) = mad k := by omega
  have h2 := (mad_ok (aFk_ok (mad k - 1) (by omega)).1).2.2
  rw [e, h1.2.2] at h2
  exact h2.symm
theorem aiH_N (m : Nat) (h : Hp) : ∀ j, hN (aiH m h j) = hN h + j
  | 0 => rfl
  | j + 1 => by
    show hN (aiH m h j) + 1 = _
    rw [aiH_N m h j]
    rfl
theorem aiH_fr (m : Nat) (h : Hp) : ∀ j, hI (aiH m h j) = hI h ∧ hA (aiH m h j) = hA h ∧ hQ (aiH m h j) = hQ h ∧ hW (aiH m h j) = hW h ∧ (∀ a, a < hN h → hK (aiH m h j) a = hK h a ∧ hL (aiH m h j) a = hL h a) ∧ (∀ f a, a ≠ m → hR (aiH m h j) f a = hR h f a) ∧ (∀ f a, (∀ i, i < j → f ≠ 640 + aFk i) → hR (aiH m h j) f a = hR h f a)
  | 0 => ⟨rfl, rfl, rfl, rfl, fun _ _ => ⟨rfl, rfl⟩, fun _ _ _ => rfl, fun _ _ _ => rfl⟩
  | j + 1 => by
    obtain ⟨a1, a2, a3, a4, a5, a6, a7⟩ := aiH_fr m h j
    have n1 := aiH_N m h j
    refine ⟨a1, a2, a3, a4, fun a ha => ⟨?_, ?_⟩, fun f a ha => ?_, fun f a hf => ?_⟩
    · show va_up (hK (aiH m h j)) (hN (aiH m h j)) (aKd j) a = _
      rw [va_up_ne _ _ (by omega)]
      exact (a5 a ha).1
    · show va_up (hL (aiH m h j)) (hN (aiH m h j)) (aLn j) a = _
      rw [va_up_ne _ _ (by omega)]
      exact (a5 a ha).2
    · show hR (sR (nw (aiH m h j) (aKd j) (aLn j)) (640 + aFk j) m (some (hN h + j))) f a = _
      rw [rR_nb ha]
      exact a6 f a ha
    · show hR (sR (nw (aiH m h j) (aKd j) (aLn j)) (640 + aFk j) m (some (hN h + j))) f a = _
      rw [rR_ne (hf j (Nat.lt_succ_self j))]
      exact a7 f a (fun i hi => hf i (by omega))
theorem aiH_at (m : Nat) (h : Hp) : ∀ j, j ≤ 33 → ∀ i, i < j → hK (aiH m h j) (hN h + i) = aKd i ∧ hL (aiH m h j) (hN h + i) = aLn i ∧ hR (aiH m h j) (640 + aFk i) m = some (hN h + i)
  | 0, _, i, hi => absurd hi (Nat.not_lt_zero i)
  | j + 1, hj, i, hi => by
    have n1 := aiH_N m h j
    by_cases q : i = j
    · subst q
      refine ⟨?_, ?_, ?_⟩
      · show va_up (hK (aiH m h i)) (hN (aiH m h i)) (aKd i) (hN h + i) = _
        rw [n1, va_up_self]
      · show va_up (hL (aiH m h i)) (hN (aiH m h i)) (aLn i) (hN h + i) = _
        rw [n1, va_up_self]
      · show hR (sR (nw (aiH m h i) (aKd i) (aLn i)) (640 + aFk i) m (some (hN h + i))) (640 + aFk i) m = _
        rw [rR_at]
    · obtain ⟨b1, b2, b3⟩ := aiH_at m h j (by omega) i (by omega)
      refine ⟨?_, ?_, ?_⟩
      · show va_up (hK (aiH m h j)) (hN (aiH m h j)) (aKd j) (hN h + i) = _
        rw [va_up_ne _ _ (by omega)]
        exact b1
      · show va_up (hL (aiH m h j)) (hN (aiH m h j)) (aLn j) (hN h + i) = _
        rw [va_up_ne _ _ (by omega)]
        exact b2
      · show hR (sR (nw (aiH m h j) (aKd j) (aLn j)) (640 + aFk j) m (some (hN h + j))) (640 + aFk i) m = _
        have ne : 640 + aFk i ≠ 640 + aFk j := fun z => by
          have e1 := (aFk_ok i (by omega)).2.1
          have e2 := (aFk_ok j (by omega)).2.1
          rw [show aFk i = aFk j by omega] at e1
          omega
        rw [rR_ne ne]
        exact b3
theorem aiH_st {m : Nat} {h : Hp} {j kd n f : Nat} (e1 : aKd j = kd) (e2 : aLn j = n) (e3 : 640 + aFk j = f) : sR (nw (aiH m h j) kd n) f m (some (hN (aiH m h j))) = aiH m h (j + 1) := by
  subst e1 e2 e3
  rw [aiH_N]
  rfl
theorem aiH_k {m : Nat} {h : Hp} (hk : hK h m = 10) (hn : m < hN h) (j kd n : Nat) : hK (nw (aiH m h j) kd n) m = 10 := by
  show va_up (hK (aiH m h j)) (hN (aiH m h j)) kd m = 10
  rw [va_up_ne _ _ (by rw [aiH_N]; omega)]
  exact ((aiH_fr m h j).2.2.2.2.1 m hn).1.trans hk
theorem aiH_MW {m : Nat} {h : Hp} (hk : hK h m = 10) (hn : hN h = m + 1) : MW m (aiH m h 33) := by
  refine ⟨((aiH_fr m h 33).2.2.2.2.1 m (by omega)).1.trans hk, fun k ha => ?_⟩
  obtain ⟨j, hj, rfl⟩ := aFk_of ha
  obtain ⟨-, e2, e3, e4⟩ := aFk_ok j hj
  obtain ⟨b1, b2, b3⟩ := aiH_at m h 33 (Nat.le_refl _) j hj
  rw [e2, e3, e4, show m + (j + 1) = hN h + j by omega]
  exact ⟨b3, b1, b2⟩
/-- the model's memory at first: window 100, one element, the next number 1 -/
def mm0 : MM := u2 (u2 (u2 (fun _ _ => 0) 1 0 100) 2 0 1) 3 0 1
theorem pm_id {m : Nat} {h : Hp} {S : MM} (h1 : ∀ k, msc k = true → hI h (640 + k) m = S k 0) (h2 : ∀ k, marr k = true → hA h (m + mad k) = S k) : pm m h S = h := by
  have eI : (fun f a => if a = m ∧ 640 ≤ f ∧ msc (f - 640) = true then S (f - 640) 0 else hI h f a) = hI h := by
    funext f a
    by_cases q : a = m ∧ 640 ≤ f ∧ msc (f - 640) = true
    · rw [if_pos q]
      have := h1 (f - 640) q.2.2
      rw [show 640 + (f - 640) = f by omega] at this
      rw [q.1]
      exact this.symm
    · rw [if_neg q]
  have eA : (fun a j => if m < a ∧ a ≤ m + 33 then S (mof (a - m)) j else hA h a j) = hA h := by
    funext a j
    by_cases q : m < a ∧ a ≤ m + 33
    · rw [if_pos q]
      have hm := mof_ok (d := a - m) (by omega) (by omega)
      have ha : marr (mof (a - m)) = true := by
        have : ∀ d, d < 34 → 0 < d → marr (mof d) = true := by decide
        exact this (a - m) (by omega) (by omega)
      have := h2 (mof (a - m)) ha
      rw [hm.1, show m + (a - m) = a by omega] at this
      rw [this]
    · rw [if_neg q]
  show (hN h, hK h, hL h, (fun f a => if a = m ∧ 640 ≤ f ∧ msc (f - 640) = true then S (f - 640) 0 else hI h f a), hR h, (fun a j => if m < a ∧ a ≤ m + 33 then S (mof (a - m)) j else hA h a j), hQ h, hW h) = h
  rw [eI, eA]
  rfl
theorem tn_nI {a : Nat} (h : a < 2 ^ 31) : tn (nI a) = a := by
  unfold tn
  rw [nI_toInt h]
  rfl
theorem ix_nI {a n : Nat} (h : a < n) (h31 : a < 2 ^ 31) : ix (nI a) n := ⟨by rw [tn_nI h31], by rw [tn_nI h31]; exact h⟩
theorem ix_0 {n : Nat} (h : 0 < n) : ix (0 : Int32) n := by
  rw [← nI_0]
  exact ix_nI h (by decide)
theorem tn_0 : tn (0 : Int32) = 0 := by
  rw [← nI_0]
  exact tn_nI (by decide)
theorem mi_pm {m : Nat} {h : Hp} (hg : Good h) (hn : hN h = m + 1) (hz : ∀ f, hI h f m = 0) (j : Nat) : pm m (aiH m (sI (sI (sI h fM_window m 100) fM_numbers m 1) fM_many m 1) j) mm0 = aiH m (sI (sI (sI h fM_window m 100) fM_numbers m 1) fM_many m 1) j := by
  obtain ⟨a1, a2, -⟩ := aiH_fr m (sI (sI (sI h fM_window m 100) fM_numbers m 1) fM_many m 1) j
  generalize aiH m (sI (sI (sI h fM_window m 100) fM_numbers m 1) fM_many m 1) j = h9 at a1 a2 ⊢
  refine pm_id (fun k hk => ?_) (fun k hk => ?_)
  · rw [a1]
    simp only [msc, Bool.or_eq_true, beq_iff_eq] at hk
    have z : ∀ f, f ≠ fM_window → f ≠ fM_numbers → f ≠ fM_many → hI (sI (sI (sI h fM_window m 100) fM_numbers m 1) fM_many m 1) f m = 0 := fun f q1 q2 q3 => by
      rw [iI_ne q3, iI_ne q2, iI_ne q1]
      exact hz f
    rcases hk with (((((rfl | rfl) | rfl) | rfl) | rfl) | rfl) | rfl
    · rw [z _ (by decide) (by decide) (by decide)]; rfl
    · rw [show (640 + 1 : Nat) = fM_window from rfl, iI_ne (by decide), iI_ne (by decide), iI_at]; rfl
    · rw [show (640 + 2 : Nat) = fM_numbers from rfl, iI_ne (by decide), iI_at]; rfl
    · rw [show (640 + 3 : Nat) = fM_many from rfl, iI_at]; rfl
    · rw [z _ (by decide) (by decide) (by decide)]; rfl
    · rw [z _ (by decide) (by decide) (by decide)]; rfl
    · rw [z _ (by decide) (by decide) (by decide)]; rfl
  · rw [a2]
    have hp := (mad_ok hk).1
    funext j
    show hA h (m + mad k) j = mm0 k j
    rw [((hg.2.2.1 (m + mad k) (by omega)).2.2 j).1]
    have h4 : k ≠ 1 ∧ k ≠ 2 ∧ k ≠ 3 := by
      refine ⟨?_, ?_, ?_⟩ <;> (intro z; subst z; exact absurd hk (by decide))
    unfold mm0
    rw [u2_row h4.2.2, u2_row h4.2.1, u2_row h4.1]
theorem mi_end {X : Ctx} {m : Nat} {h4 : Hp} {S : MM} (C : Cx X yX12_init cX12_init 1 none [] 6 33 2500) (hM : MW m h4) (E9 : m_finds (u2 mm0 5 0 (-1)) = some S) (E : Ex X 33 2500 (.inl (none, pm m h4 S))) : wr X 33 2500 289 [.ref m] [] (pm m h4 mm0) := by
  refine r_aload_n (i := 0) C dX12_init_289 rfl rfl (by first | rfl | exact isR_rf _) ?_
  refine rm_ref (k := 5) C f_X12_23 dX12_init_290 rfl rfl hM rfl ?_
  refine r_iconst (v := 0) C dX12_init_293 (by decide) ?_
  refine r_iconst (v := (-1)) C dX12_init_294 (by decide) ?_
  refine rm_iast (k := 5) C dX12_init_295 hM rfl rfl (ix_0 (by decide)) ?_
  rw [tn_0]
  refine r_aload_n (i := 0) C dX12_init_296 rfl rfl (by first | rfl | exact isR_rf _) ?_
  refine r_callVn C v_X12_120 (z_finds _ _ hM E9) dX12_init_297 hM.1 (ci := 10) (by decide) rfl rfl (As := []) rfl rfl rfl (by omega) (Nat.le_of_ble_eq_true rfl) (by omega) (by omega) ?_
  exact r_vret C E dX12_init_300 rfl (Nat.le_refl _) (Nat.le_refl _)
theorem mi_w0 {X : Ctx} {m : Nat} (C : Cx X yX12_init cX12_init 1 none [] 6 33 2500) (hN9 : meth_nm X = "<init>") (P : Nat → Hp) (hs : ∀ j kd n f, aKd j = kd → aLn j = n → 640 + aFk j = f → sR (nw (P j) kd n) f m (some (hN (P j))) = P (j + 1)) (hkP : ∀ j kd n, hK (nw (P j) kd n) m = 10)
    (K : wr X 9 256 92 [.ref m] [] (P 9)) : wr X 0 0 20 [.ref m] [] (P 0) := by
  refine r_aload_n (i := 0) C dX12_init_20 rfl rfl (by first | rfl | exact isR_rf _) ?_
  refine r_bipush (v := 24) C dX12_init_21 (by decide) ?_
  refine r_newa_int (j := 24) C dX12_init_23 rfl (by omega) w_arI (by omega) (by omega) ?_
  refine r_putFR (o := some (hN (P 0))) C f_X12_19 dX12_init_25 rfl hN9 rfl (hkP 0 100 24) ?_
  rw [show sR (nw (P 0) 100 24) fM_number m (some (hN (P 0))) = P 1 from hs 0 _ _ _ rfl rfl rfl]
  show wr X 1 24 28 [.ref m] [] (P 1)
  refine r_aload_n (i := 0) C dX12_init_28 rfl rfl (by first | rfl | exact isR_rf _) ?_
  refine r_bipush (v := 24) C dX12_init_29 (by decide) ?_
  refine r_newa_int (j := 24) C dX12_init_31 rfl (by omega) w_arI (by omega) (by omega) ?_
  refine r_putFR (o := some (hN (P 1))) C f_X12_23 dX12_init_33 rfl hN9 rfl (hkP 1 100 24) ?_
  rw [show sR (nw (P 1) 100 24) fM_parent m (some (hN (P 1))) = P 2 from hs 1 _ _ _ rfl rfl rfl]
  show wr X 2 48 36 [.ref m] [] (P 2)
  refine r_aload_n (i := 0) C dX12_init_36 rfl rfl (by first | rfl | exact isR_rf _) ?_
  refine r_bipush (v := 24) C dX12_init_37 (by decide) ?_
  refine r_newa_int (j := 24) C dX12_init_39 rfl (by omega) w_arI (by omega) (by omega) ?_
  refine r_putFR (o := some (hN (P 2))) C f_X12_26 dX12_init_41 rfl hN9 rfl (hkP 2 100 24) ?_
  rw [show sR (nw (P 2) 100 24) fM_tag m (some (hN (P 2))) = P 3 from hs 2 _ _ _ rfl rfl rfl]
  show wr X 3 72 44 [.ref m] [] (P 3)
  refine r_aload_n (i := 0) C dX12_init_44 rfl rfl (by first | rfl | exact isR_rf _) ?_
  refine r_bipush (v := 24) C dX12_init_45 (by decide) ?_
  refine r_newa_int (j := 24) C dX12_init_47 rfl (by omega) w_arI (by omega) (by omega) ?_
  refine r_putFR (o := some (hN (P 3))) C f_X12_29 dX12_init_49 rfl hN9 rfl (hkP 3 100 24) ?_
  rw [show sR (nw (P 3) 100 24) fM_classes m (some (hN (P 3))) = P 4 from hs 3 _ _ _ rfl rfl rfl]
  show wr X 4 96 52 [.ref m] [] (P 4)
  refine r_aload_n (i := 0) C dX12_init_52 rfl rfl (by first | rfl | exact isR_rf _) ?_
  refine r_bipush (v := 24) C dX12_init_53 (by decide) ?_
  refine r_newa_int (j := 24) C dX12_init_55 rfl (by omega) w_arI (by omega) (by omega) ?_
  refine r_putFR (o := some (hN (P 4))) C f_X12_32 dX12_init_57 rfl hN9 rfl (hkP 4 100 24) ?_
  rw [show sR (nw (P 4) 100 24) fM_words m (some (hN (P 4))) = P 5 from hs 4 _ _ _ rfl rfl rfl]
  show wr X 5 120 60 [.ref m] [] (P 5)
  refine r_aload_n (i := 0) C dX12_init_60 rfl rfl (by first | rfl | exact isR_rf _) ?_
  refine r_bipush (v := 24) C dX12_init_61 (by decide) ?_
  refine r_newa_boo (j := 24) C dX12_init_63 rfl (by omega) w_arZ (by omega) (by omega) ?_
  refine r_putFR (o := some (hN (P 5))) C f_X12_35 dX12_init_65 rfl hN9 rfl (hkP 5 101 24) ?_
  rw [show sR (nw (P 5) 101 24) fM_container m (some (hN (P 5))) = P 6 from hs 5 _ _ _ rfl rfl rfl]
  show wr X 6 144 68 [.ref m] [] (P 6)
  refine r_aload_n (i := 0) C dX12_init_68 rfl rfl (by first | rfl | exact isR_rf _) ?_
  refine r_bipush (v := 16) C dX12_init_69 (by decide) ?_
  refine r_newa_int (j := 16) C dX12_init_71 rfl (by omega) w_arI (by omega) (by omega) ?_
  refine r_putFR (o := some (hN (P 6))) C f_X12_39 dX12_init_73 rfl hN9 rfl (hkP 6 100 16) ?_
  rw [show sR (nw (P 6) 100 16) fM_parts m (some (hN (P 6))) = P 7 from hs 6 _ _ _ rfl rfl rfl]
  show wr X 7 160 76 [.ref m] [] (P 7)
  refine r_aload_n (i := 0) C dX12_init_76 rfl rfl (by first | rfl | exact isR_rf _) ?_
  refine r_bipush (v := 48) C dX12_init_77 (by decide) ?_
  refine r_newa_int (j := 48) C dX12_init_79 rfl (by omega) w_arI (by omega) (by omega) ?_
  refine r_putFR (o := some (hN (P 7))) C f_X12_42 dX12_init_81 rfl hN9 rfl (hkP 7 100 48) ?_
  rw [show sR (nw (P 7) 100 48) fM_way m (some (hN (P 7))) = P 8 from hs 7 _ _ _ rfl rfl rfl]
  show wr X 8 208 84 [.ref m] [] (P 8)
  refine r_aload_n (i := 0) C dX12_init_84 rfl rfl (by first | rfl | exact isR_rf _) ?_
  refine r_bipush (v := 48) C dX12_init_85 (by decide) ?_
  refine r_newa_int (j := 48) C dX12_init_87 rfl (by omega) w_arI (by omega) (by omega) ?_
  refine r_putFR (o := some (hN (P 8))) C f_X12_45 dX12_init_89 rfl hN9 rfl (hkP 8 100 48) ?_
  rw [show sR (nw (P 8) 100 48) fM_partTag m (some (hN (P 8))) = P 9 from hs 8 _ _ _ rfl rfl rfl]
  show wr X 9 256 92 [.ref m] [] (P 9)
  exact K
theorem mi_w1 {X : Ctx} {m : Nat} (C : Cx X yX12_init cX12_init 1 none [] 6 33 2500) (hN9 : meth_nm X = "<init>") (P : Nat → Hp) (hs : ∀ j kd n f, aKd j = kd → aLn j = n → 640 + aFk j = f → sR (nw (P j) kd n) f m (some (hN (P j))) = P (j + 1)) (hkP : ∀ j kd n, hK (nw (P j) kd n) m = 10)
    (K : wr X 17 864 158 [.ref m] [] (P 17)) : wr X 9 256 92 [.ref m] [] (P 9) := by
  refine r_aload_n (i := 0) C dX12_init_92 rfl rfl (by first | rfl | exact isR_rf _) ?_
  refine r_bipush (v := 48) C dX12_init_93 (by decide) ?_
  refine r_newa_int (j := 48) C dX12_init_95 rfl (by omega) w_arI (by omega) (by omega) ?_
  refine r_putFR (o := some (hN (P 9))) C f_X12_48 dX12_init_97 rfl hN9 rfl (hkP 9 100 48) ?_
  rw [show sR (nw (P 9) 100 48) fM_has m (some (hN (P 9))) = P 10 from hs 9 _ _ _ rfl rfl rfl]
  show wr X 10 304 100 [.ref m] [] (P 10)
  refine r_aload_n (i := 0) C dX12_init_100 rfl rfl (by first | rfl | exact isR_rf _) ?_
  refine r_bipush (v := 48) C dX12_init_101 (by decide) ?_
  refine r_newa_int (j := 48) C dX12_init_103 rfl (by omega) w_arI (by omega) (by omega) ?_
  refine r_putFR (o := some (hN (P 10))) C f_X12_51 dX12_init_105 rfl hN9 rfl (hkP 10 100 48) ?_
  rw [show sR (nw (P 10) 100 48) fM_lacks m (some (hN (P 10))) = P 11 from hs 10 _ _ _ rfl rfl rfl]
  show wr X 11 352 108 [.ref m] [] (P 11)
  refine r_aload_n (i := 0) C dX12_init_108 rfl rfl (by first | rfl | exact isR_rf _) ?_
  refine r_bipush (v := 16) C dX12_init_109 (by decide) ?_
  refine r_newa_int (j := 16) C dX12_init_111 rfl (by omega) w_arI (by omega) (by omega) ?_
  refine r_putFR (o := some (hN (P 11))) C f_X12_54 dX12_init_113 rfl hN9 rfl (hkP 11 100 16) ?_
  rw [show sR (nw (P 11) 100 16) fM_origin m (some (hN (P 11))) = P 12 from hs 11 _ _ _ rfl rfl rfl]
  show wr X 12 368 116 [.ref m] [] (P 12)
  refine r_aload_n (i := 0) C dX12_init_116 rfl rfl (by first | rfl | exact isR_rf _) ?_
  refine r_bipush (v := 16) C dX12_init_117 (by decide) ?_
  refine r_newa_int (j := 16) C dX12_init_119 rfl (by omega) w_arI (by omega) (by omega) ?_
  refine r_putFR (o := some (hN (P 12))) C f_X12_57 dX12_init_121 rfl hN9 rfl (hkP 12 100 16) ?_
  rw [show sR (nw (P 12) 100 16) fM_layer m (some (hN (P 12))) = P 13 from hs 12 _ _ _ rfl rfl rfl]
  show wr X 13 384 124 [.ref m] [] (P 13)
  refine r_aload_n (i := 0) C dX12_init_124 rfl rfl (by first | rfl | exact isR_rf _) ?_
  refine r_bipush (v := 16) C dX12_init_125 (by decide) ?_
  refine r_newa_boo (j := 16) C dX12_init_127 rfl (by omega) w_arZ (by omega) (by omega) ?_
  refine r_putFR (o := some (hN (P 13))) C f_X12_60 dX12_init_129 rfl hN9 rfl (hkP 13 101 16) ?_
  rw [show sR (nw (P 13) 101 16) fM_important m (some (hN (P 13))) = P 14 from hs 13 _ _ _ rfl rfl rfl]
  show wr X 14 400 132 [.ref m] [] (P 14)
  refine r_aload_n (i := 0) C dX12_init_132 rfl rfl (by first | rfl | exact isR_rf _) ?_
  refine r_bipush (v := 16) C dX12_init_133 (by decide) ?_
  refine r_newa_int (j := 16) C dX12_init_135 rfl (by omega) w_arI (by omega) (by omega) ?_
  refine r_putFR (o := some (hN (P 14))) C f_X12_63 dX12_init_137 rfl hN9 rfl (hkP 14 100 16) ?_
  rw [show sR (nw (P 14) 100 16) fM_least m (some (hN (P 14))) = P 15 from hs 14 _ _ _ rfl rfl rfl]
  show wr X 15 416 140 [.ref m] [] (P 15)
  refine r_aload_n (i := 0) C dX12_init_140 rfl rfl (by first | rfl | exact isR_rf _) ?_
  refine r_sipush (v := 224) C dX12_init_141 (by decide) ?_
  refine r_newa_int (j := 224) C dX12_init_144 rfl (by omega) w_arI (by omega) (by omega) ?_
  refine r_putFR (o := some (hN (P 15))) C f_X12_66 dX12_init_146 rfl hN9 rfl (hkP 15 100 224) ?_
  rw [show sR (nw (P 15) 100 224) fM_how m (some (hN (P 15))) = P 16 from hs 15 _ _ _ rfl rfl rfl]
  show wr X 16 640 149 [.ref m] [] (P 16)
  refine r_aload_n (i := 0) C dX12_init_149 rfl rfl (by first | rfl | exact isR_rf _) ?_
  refine r_sipush (v := 224) C dX12_init_150 (by decide) ?_
  refine r_newa_int (j := 224) C dX12_init_153 rfl (by omega) w_arI (by omega) (by omega) ?_
  refine r_putFR (o := some (hN (P 16))) C f_X12_69 dX12_init_155 rfl hN9 rfl (hkP 16 100 224) ?_
  rw [show sR (nw (P 16) 100 224) fM_what m (some (hN (P 16))) = P 17 from hs 16 _ _ _ rfl rfl rfl]
  show wr X 17 864 158 [.ref m] [] (P 17)
  exact K
theorem mi_w2 {X : Ctx} {m : Nat} (C : Cx X yX12_init cX12_init 1 none [] 6 33 2500) (hN9 : meth_nm X = "<init>") (P : Nat → Hp) (hs : ∀ j kd n f, aKd j = kd → aLn j = n → 640 + aFk j = f → sR (nw (P j) kd n) f m (some (hN (P j))) = P (j + 1)) (hkP : ∀ j kd n, hK (nw (P j) kd n) m = 10)
    (K : wr X 25 1952 225 [.ref m] [] (P 25)) : wr X 17 864 158 [.ref m] [] (P 17) := by
  refine r_aload_n (i := 0) C dX12_init_158 rfl rfl (by first | rfl | exact isR_rf _) ?_
  refine r_sipush (v := 224) C dX12_init_159 (by decide) ?_
  refine r_newa_int (j := 224) C dX12_init_162 rfl (by omega) w_arI (by omega) (by omega) ?_
  refine r_putFR (o := some (hN (P 17))) C f_X12_72 dX12_init_164 rfl hN9 rfl (hkP 17 100 224) ?_
  rw [show sR (nw (P 17) 100 224) fM_fallback m (some (hN (P 17))) = P 18 from hs 17 _ _ _ rfl rfl rfl]
  show wr X 18 1088 167 [.ref m] [] (P 18)
  refine r_aload_n (i := 0) C dX12_init_167 rfl rfl (by first | rfl | exact isR_rf _) ?_
  refine r_sipush (v := 336) C dX12_init_168 (by decide) ?_
  refine r_newa_int (j := 336) C dX12_init_171 rfl (by omega) w_arI (by omega) (by omega) ?_
  refine r_putFR (o := some (hN (P 18))) C f_X12_75 dX12_init_173 rfl hN9 rfl (hkP 18 100 336) ?_
  rw [show sR (nw (P 18) 100 336) fM_value m (some (hN (P 18))) = P 19 from hs 18 _ _ _ rfl rfl rfl]
  show wr X 19 1424 176 [.ref m] [] (P 19)
  refine r_aload_n (i := 0) C dX12_init_176 rfl rfl (by first | rfl | exact isR_rf _) ?_
  refine r_sipush (v := 336) C dX12_init_177 (by decide) ?_
  refine r_newa_int (j := 336) C dX12_init_180 rfl (by omega) w_arI (by omega) (by omega) ?_
  refine r_putFR (o := some (hN (P 19))) C f_X12_78 dX12_init_182 rfl hN9 rfl (hkP 19 100 336) ?_
  rw [show sR (nw (P 19) 100 336) fM_from m (some (hN (P 19))) = P 20 from hs 19 _ _ _ rfl rfl rfl]
  show wr X 20 1760 185 [.ref m] [] (P 20)
  refine r_aload_n (i := 0) C dX12_init_185 rfl rfl (by first | rfl | exact isR_rf _) ?_
  refine r_bipush (v := 96) C dX12_init_186 (by decide) ?_
  refine r_newa_int (j := 96) C dX12_init_188 rfl (by omega) w_arI (by omega) (by omega) ?_
  refine r_putFR (o := some (hN (P 20))) C f_X12_81 dX12_init_190 rfl hN9 rfl (hkP 20 100 96) ?_
  rw [show sR (nw (P 20) 100 96) fM_box m (some (hN (P 20))) = P 21 from hs 20 _ _ _ rfl rfl rfl]
  show wr X 21 1856 193 [.ref m] [] (P 21)
  refine r_aload_n (i := 0) C dX12_init_193 rfl rfl (by first | rfl | exact isR_rf _) ?_
  refine r_bipush (v := 24) C dX12_init_194 (by decide) ?_
  refine r_newa_int (j := 24) C dX12_init_196 rfl (by omega) w_arI (by omega) (by omega) ?_
  refine r_putFR (o := some (hN (P 21))) C f_X12_84 dX12_init_198 rfl hN9 rfl (hkP 21 100 24) ?_
  rw [show sR (nw (P 21) 100 24) fM_lines m (some (hN (P 21))) = P 22 from hs 21 _ _ _ rfl rfl rfl]
  show wr X 22 1880 201 [.ref m] [] (P 22)
  refine r_aload_n (i := 0) C dX12_init_201 rfl rfl (by first | rfl | exact isR_rf _) ?_
  refine r_bipush (v := 24) C dX12_init_202 (by decide) ?_
  refine r_newa_int (j := 24) C dX12_init_204 rfl (by omega) w_arI (by omega) (by omega) ?_
  refine r_putFR (o := some (hN (P 22))) C f_X12_87 dX12_init_206 rfl hN9 rfl (hkP 22 100 24) ?_
  rw [show sR (nw (P 22) 100 24) fM_depth m (some (hN (P 22))) = P 23 from hs 22 _ _ _ rfl rfl rfl]
  show wr X 23 1904 209 [.ref m] [] (P 23)
  refine r_aload_n (i := 0) C dX12_init_209 rfl rfl (by first | rfl | exact isR_rf _) ?_
  refine r_bipush (v := 24) C dX12_init_210 (by decide) ?_
  refine r_newa_boo (j := 24) C dX12_init_212 rfl (by omega) w_arZ (by omega) (by omega) ?_
  refine r_putFR (o := some (hN (P 23))) C f_X12_90 dX12_init_214 rfl hN9 rfl (hkP 23 101 24) ?_
  rw [show sR (nw (P 23) 101 24) fM_shown m (some (hN (P 23))) = P 24 from hs 23 _ _ _ rfl rfl rfl]
  show wr X 24 1928 217 [.ref m] [] (P 24)
  refine r_aload_n (i := 0) C dX12_init_217 rfl rfl (by first | rfl | exact isR_rf _) ?_
  refine r_bipush (v := 24) C dX12_init_218 (by decide) ?_
  refine r_newa_int (j := 24) C dX12_init_220 rfl (by omega) w_arI (by omega) (by omega) ?_
  refine r_putFR (o := some (hN (P 24))) C f_X12_93 dX12_init_222 rfl hN9 rfl (hkP 24 100 24) ?_
  rw [show sR (nw (P 24) 100 24) fM_numberAhead m (some (hN (P 24))) = P 25 from hs 24 _ _ _ rfl rfl rfl]
  show wr X 25 1952 225 [.ref m] [] (P 25)
  exact K
theorem mi_w3 {X : Ctx} {m : Nat} (C : Cx X yX12_init cX12_init 1 none [] 6 33 2500) (hN9 : meth_nm X = "<init>") (P : Nat → Hp) (hs : ∀ j kd n f, aKd j = kd → aLn j = n → 640 + aFk j = f → sR (nw (P j) kd n) f m (some (hN (P j))) = P (j + 1)) (hkP : ∀ j kd n, hK (nw (P j) kd n) m = 10)
    (K : wr X 33 2500 289 [.ref m] [] (P 33)) : wr X 25 1952 225 [.ref m] [] (P 25) := by
  refine r_aload_n (i := 0) C dX12_init_225 rfl rfl (by first | rfl | exact isR_rf _) ?_
  refine r_sipush (v := 336) C dX12_init_226 (by decide) ?_
  refine r_newa_int (j := 336) C dX12_init_229 rfl (by omega) w_arI (by omega) (by omega) ?_
  refine r_putFR (o := some (hN (P 25))) C f_X12_96 dX12_init_231 rfl hN9 rfl (hkP 25 100 336) ?_
  rw [show sR (nw (P 25) 100 336) fM_valueAhead m (some (hN (P 25))) = P 26 from hs 25 _ _ _ rfl rfl rfl]
  show wr X 26 2288 234 [.ref m] [] (P 26)
  refine r_aload_n (i := 0) C dX12_init_234 rfl rfl (by first | rfl | exact isR_rf _) ?_
  refine r_bipush (v := 96) C dX12_init_235 (by decide) ?_
  refine r_newa_int (j := 96) C dX12_init_237 rfl (by omega) w_arI (by omega) (by omega) ?_
  refine r_putFR (o := some (hN (P 26))) C f_X12_99 dX12_init_239 rfl hN9 rfl (hkP 26 100 96) ?_
  rw [show sR (nw (P 26) 100 96) fM_boxAhead m (some (hN (P 26))) = P 27 from hs 26 _ _ _ rfl rfl rfl]
  show wr X 27 2384 242 [.ref m] [] (P 27)
  refine r_aload_n (i := 0) C dX12_init_242 rfl rfl (by first | rfl | exact isR_rf _) ?_
  refine r_bipush (v := 24) C dX12_init_243 (by decide) ?_
  refine r_newa_int (j := 24) C dX12_init_245 rfl (by omega) w_arI (by omega) (by omega) ?_
  refine r_putFR (o := some (hN (P 27))) C f_X12_102 dX12_init_247 rfl hN9 rfl (hkP 27 100 24) ?_
  rw [show sR (nw (P 27) 100 24) fM_its m (some (hN (P 27))) = P 28 from hs 27 _ _ _ rfl rfl rfl]
  show wr X 28 2408 250 [.ref m] [] (P 28)
  refine r_aload_n (i := 0) C dX12_init_250 rfl rfl (by first | rfl | exact isR_rf _) ?_
  refine r_bipush (v := 24) C dX12_init_251 (by decide) ?_
  refine r_newa_boo (j := 24) C dX12_init_253 rfl (by omega) w_arZ (by omega) (by omega) ?_
  refine r_putFR (o := some (hN (P 28))) C f_X12_105 dX12_init_255 rfl hN9 rfl (hkP 28 101 24) ?_
  rw [show sR (nw (P 28) 101 24) fM_frozen m (some (hN (P 28))) = P 29 from hs 28 _ _ _ rfl rfl rfl]
  show wr X 29 2432 258 [.ref m] [] (P 29)
  refine r_aload_n (i := 0) C dX12_init_258 rfl rfl (by first | rfl | exact isR_rf _) ?_
  refine r_bipush (v := 16) C dX12_init_259 (by decide) ?_
  refine r_newa_boo (j := 16) C dX12_init_261 rfl (by omega) w_arZ (by omega) (by omega) ?_
  refine r_putFR (o := some (hN (P 29))) C f_X12_108 dX12_init_263 rfl hN9 rfl (hkP 29 101 16) ?_
  rw [show sR (nw (P 29) 101 16) fM_there m (some (hN (P 29))) = P 30 from hs 29 _ _ _ rfl rfl rfl]
  show wr X 30 2448 266 [.ref m] [] (P 30)
  refine r_aload_n (i := 0) C dX12_init_266 rfl rfl (by first | rfl | exact isR_rf _) ?_
  refine r_iconst (v := 4) C dX12_init_267 (by decide) ?_
  refine r_newa_int (j := 4) C dX12_init_268 rfl (by omega) w_arI (by omega) (by omega) ?_
  refine r_putFR (o := some (hN (P 30))) C f_X12_111 dX12_init_270 rfl hN9 rfl (hkP 30 100 4) ?_
  rw [show sR (nw (P 30) 100 4) fM_teller m (some (hN (P 30))) = P 31 from hs 30 _ _ _ rfl rfl rfl]
  show wr X 31 2452 273 [.ref m] [] (P 31)
  refine r_aload_n (i := 0) C dX12_init_273 rfl rfl (by first | rfl | exact isR_rf _) ?_
  refine r_bipush (v := 24) C dX12_init_274 (by decide) ?_
  refine r_newa_int (j := 24) C dX12_init_276 rfl (by omega) w_arI (by omega) (by omega) ?_
  refine r_putFR (o := some (hN (P 31))) C f_X12_114 dX12_init_278 rfl hN9 rfl (hkP 31 100 24) ?_
  rw [show sR (nw (P 31) 100 24) fM_share m (some (hN (P 31))) = P 32 from hs 31 _ _ _ rfl rfl rfl]
  show wr X 32 2476 281 [.ref m] [] (P 32)
  refine r_aload_n (i := 0) C dX12_init_281 rfl rfl (by first | rfl | exact isR_rf _) ?_
  refine r_bipush (v := 24) C dX12_init_282 (by decide) ?_
  refine r_newa_boo (j := 24) C dX12_init_284 rfl (by omega) w_arZ (by omega) (by omega) ?_
  refine r_putFR (o := some (hN (P 32))) C f_X12_117 dX12_init_286 rfl hN9 rfl (hkP 32 101 24) ?_
  rw [show sR (nw (P 32) 101 24) fM_bursts m (some (hN (P 32))) = P 33 from hs 32 _ _ _ rfl rfl rfl]
  show wr X 33 2500 289 [.ref m] [] (P 33)
  exact K
theorem mi_walk {X : Ctx} {m : Nat} (C : Cx X yX12_init cX12_init 1 none [] 6 33 2500) (hN9 : meth_nm X = "<init>") (P : Nat → Hp) (hs : ∀ j kd n f, aKd j = kd → aLn j = n → 640 + aFk j = f → sR (nw (P j) kd n) f m (some (hN (P j))) = P (j + 1)) (hkP : ∀ j kd n, hK (nw (P j) kd n) m = 10)
    (K : wr X 33 2500 289 [.ref m] [] (P 33)) : wr X 0 0 20 [.ref m] [] (P 0) := by
  refine mi_w0 C hN9 P hs hkP ?_
  refine mi_w1 C hN9 P hs hkP ?_
  refine mi_w2 C hN9 P hs hkP ?_
  refine mi_w3 C hN9 P hs hkP ?_
  exact K
theorem c_modelInit (l : Launch) (G : Gl) {m : Nat} {h : Hp} {S : MM} (hg : Good h) (hk : hK h m = 10) (hn : hN h = m + 1) (hz : ∀ f, hI h f m = 0) (E9 : m_finds (u2 mm0 5 0 (-1)) = some S) :
    MRw l G yX12_init (.code yX12_init cX12_init 1 none) 6 33 2500 [.ref m] h (.inl (none, pm m (aiH m (sI (sI (sI h fM_window m 100) fM_numbers m 1) fM_many m 1) 33) S)) := by
  refine mr_of (by decide +kernel) (Nat.le_of_ble_eq_true rfl) (ct1 (by first | rfl | exact isR_cat (isR_rf _))) (fun X hG hl C E => ?_)
  subst hG hl
  have hN9 : meth_nm X = "<init>" := cx_nm C
  have hk3 : hK (sI (sI (sI h fM_window m 100) fM_numbers m 1) fM_many m 1) m = 10 := hk
  have hn3 : hN (sI (sI (sI h fM_window m 100) fM_numbers m 1) fM_many m 1) = m + 1 := hn
  refine r_aload_n (i := 0) C dX12_init_0 rfl rfl (by first | rfl | exact isR_rf _) ?_
  refine r_oinit C dX12_init_1 (by first | exact Nat.le_refl _ | exact Nat.le_of_ble_eq_true rfl | omega) rfl (by decide) l_X12_1 w_oiM w_oiC ?_
  refine r_aload_n (i := 0) C dX12_init_4 rfl rfl (by first | rfl | exact isR_rf _) ?_
  refine r_bipush (v := 100) C dX12_init_5 (by decide) ?_
  refine r_putI C f_X12_7 dX12_init_7 rfl rfl rfl (by assumption) ?_
  refine r_aload_n (i := 0) C dX12_init_10 rfl rfl (by first | rfl | exact isR_rf _) ?_
  refine r_iconst (v := 1) C dX12_init_11 (by decide) ?_
  refine r_putI C f_X12_13 dX12_init_12 rfl rfl rfl (by assumption) ?_
  refine r_aload_n (i := 0) C dX12_init_15 rfl rfl (by first | rfl | exact isR_rf _) ?_
  refine r_iconst (v := 1) C dX12_init_16 (by decide) ?_
  refine r_putI C f_X12_16 dX12_init_17 rfl rfl rfl (by assumption) ?_
  generalize eh3 : (sI (sI (sI h fM_window m 100) fM_numbers m 1) fM_many m 1) = h3 at hk3 hn3 E ⊢
  have hm3 : m < hN h3 := by omega
  refine mi_walk C hN9 (aiH m h3) (fun j kd n f e1 e2 e3 => aiH_st e1 e2 e3) (fun j kd n => aiH_k hk3 hm3 j kd n) ?_
  have hM : MW m (aiH m h3 33) := aiH_MW hk3 hn3
  have epm : pm m (aiH m h3 33) mm0 = aiH m h3 33 := by
    rw [← eh3]
    exact mi_pm hg hn hz 33
  generalize aiH m h3 33 = h4 at hM epm E ⊢
  rw [← epm]
  exact mi_end C hM E9 E
