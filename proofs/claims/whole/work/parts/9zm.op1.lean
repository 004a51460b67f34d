/-! ===== the calls dress, contain, window, ask, text: both sides ===== -/
/-- after a call that went well -/
def OKr (A : Nat → Nat) (m : Nat) (h : Hp) (S : MM) (b : Nat) (h2 : Hp) (S' : MM) : Prop := S' 0 0 = 0 ∧ CI A m (pm m h2 S') S' b ∧ MMH m h2 S ∧ STY h h2
theorem nI_0' : nI 0 = 0 := rfl
theorem op_dress (l : Launch) (G : Gl) {A : Nat → Nat} {m b : Nat} {h : Hp} {S : MM} (H : CI A m h S b) (x c : Int32) :
    (∃ (h2 : Hp) (S' : MM) (v : Int32), MRw l G yX11_dress (.code yX11_dress cX11_dress 5 (Option.some Jvm.ClassFile.FieldType.int)) 12 8 200 [.ref (A 0), .int x, .int c] h (.inl (some (.int v), h2)) ∧ m_dress S x c = some (v, S') ∧ OKr A m h S b h2 S') ∨
    (MRw l G yX11_dress (.code yX11_dress cX11_dress 5 (Option.some Jvm.ClassFile.FieldType.int)) 12 8 200 [.ref (A 0), .int x, .int c] h (.inr (xI, h)) ∧ m_dress S x c = some (0, u2 S 0 0 1)) ∨
    (MRw l G yX11_dress (.code yX11_dress cX11_dress 5 (Option.some Jvm.ClassFile.FieldType.int)) 12 8 200 [.ref (A 0), .int x, .int c] h (.inr (xA, h)) ∧ m_dress S x c = some (0, u2 S 0 0 2)) := by
  obtain ⟨D, n, R, Ee, is, ss, ra, pa, Dd, Pl, dP, T, N, O, hl, M, nu, z, len, ky⟩ := H
  have hkH := T.2.1.1.1
  have hS := N.1.1
  cases hp : plc S n x with
  | none =>
    refine Or.inr (Or.inl ⟨c_dress_x1 l G hkH (el_no T hp), ?_⟩)
    rw [m_dress_no hS (Or.inl hp), hp, if_pos rfl]
  | some p =>
    have hpn := (plc_lt hp).1
    by_cases q : c < 0 ∨ 255 < c
    · refine Or.inr (Or.inr ⟨c_dress_x2 l G hkH (el_ok T hp) q, ?_⟩)
      rw [m_dress_no hS (Or.inr (in_0 q)), hp, if_neg (fun y => by cases y)]
    · have TL := TLD_el (v := c) (Or.inl ⟨rfl, rfl⟩) hpn T
      have hT := TNR_el (p := p) (v := c) (Or.inl rfl) N
      obtain ⟨h2, j, S', a1, a2, a3, a4, a5, a6, a7, _, _⟩ := op_end l G (wt := 0) (b := b) TL hT (KO_sI (by decide) O) (MMH_f T.1 (MFR_sI (by decide)) M) (NM_u (by decide) (by decide) nu) (by rw [show u2 S 7 p c 20 = S 20 from funext fun j => by rw [u2_row (by decide)]]; exact z) len (fun Y hY hV => m_dress_ok N.1 N.2.1 hp (in_1 q) hT.1 hY hV)
      refine Or.inl ⟨h2, S', hI h fE_classes (Ee p), c_dress_ok l G hkH (el_ok T hp) (T.2.2.2.1.2.1 _ (Ee_m hpn)).1 q a1 a7, ?_, a3, a4, a5, a6.1, KP_t KP_sI a6.2.1, a6.2.2⟩
      rw [a2, (T.2.2.2.2.1.2 p hpn).1.2.2.1]
theorem op_contain (l : Launch) (G : Gl) {A : Nat → Nat} {m b : Nat} {h : Hp} {S : MM} (H : CI A m h S b) (x : Int32) {c : Int32} (hc : c = 0 ∨ c = 1) :
    (∃ (h2 : Hp) (S' : MM) (v : Int32), MRw l G yX11_contain (.code yX11_contain cX11_contain 5 (Option.some Jvm.ClassFile.FieldType.boolean)) 12 8 200 [.ref (A 0), .int x, .int c] h (.inl (some (.int v), h2)) ∧ m_contain S x c = some (v, S') ∧ (v = 0 ∨ v = 1) ∧ OKr A m h S b h2 S') ∨
    (MRw l G yX11_contain (.code yX11_contain cX11_contain 5 (Option.some Jvm.ClassFile.FieldType.boolean)) 12 8 200 [.ref (A 0), .int x, .int c] h (.inr (xI, h)) ∧ m_contain S x c = some (0, u2 S 0 0 1)) := by
  obtain ⟨D, n, R, Ee, is, ss, ra, pa, Dd, Pl, dP, T, N, O, hl, M, nu, z, len, ky⟩ := H
  have hkH := T.2.1.1.1
  have hS := N.1.1
  cases hp : plc S n x with
  | none => exact Or.inr ⟨c_contain_x1 l G hkH (el_no T hp), m_contain_no hS hp⟩
  | some p =>
    have hpn := (plc_lt hp).1
    have TL := TLD_el (v := c) (Or.inr (Or.inr ⟨rfl, rfl⟩)) hpn T
    have hT := TNR_el (p := p) (v := c) (Or.inr (Or.inr ⟨rfl, hc⟩)) N
    have e9 := (T.2.2.2.2.1.2 p hpn).1.2.2.2.2
    have h9 := N.2.2.1 p hpn
    obtain ⟨h2, j, S', a1, a2, a3, a4, a5, a6, a7, _, _⟩ := op_end l G (wt := 0) (b := b) TL hT (KO_sI (by decide) O) (MMH_f T.1 (MFR_sI (by decide)) M) (NM_u (by decide) (by decide) nu) (by rw [show u2 S 9 p c 20 = S 20 from funext fun j => by rw [u2_row (by decide)]]; exact z) len (fun Y hY hV => m_contain_ok N.1 N.2.1 h9 hp hc hT.1 hY hV)
    refine Or.inl ⟨h2, S', hI h fE_isContainer (Ee p), c_contain_ok l G hkH (el_ok T hp) (T.2.2.2.1.2.1 _ (Ee_m hpn)).1 (by rw [e9]; exact h9) hc a1 a7, ?_, by rw [e9]; exact h9, a3, a4, a5, a6.1, KP_t KP_sI a6.2.1, a6.2.2⟩
    rw [a2, e9]
theorem op_window (l : Launch) (G : Gl) {A : Nat → Nat} {m b : Nat} {h : Hp} {S : MM} (H : CI A m h S b) (c : Int32) :
    (∃ (h2 : Hp) (S' : MM) (v : Int32), MRw l G yX11_window (.code yX11_window cX11_window 3 (Option.some Jvm.ClassFile.FieldType.int)) 12 8 200 [.ref (A 0), .int c] h (.inl (some (.int v), h2)) ∧ m_window S c = some (v, S') ∧ OKr A m h S b h2 S') ∨
    (MRw l G yX11_window (.code yX11_window cX11_window 3 (Option.some Jvm.ClassFile.FieldType.int)) 12 8 200 [.ref (A 0), .int c] h (.inr (xA, h)) ∧ m_window S c = some (0, u2 S 0 0 1)) := by
  obtain ⟨D, n, R, Ee, is, ss, ra, pa, Dd, Pl, dP, T, N, O, hl, M, nu, z, len, ky⟩ := H
  have hkH := T.2.1.1.1
  by_cases q : c < 0 ∨ 2000 < c
  · exact Or.inr ⟨c_window_x1 l G q, m_window_no (in_0 q)⟩
  · have TL := TLD_wi (v := c) T
    have hT := TNR_wi (v := c) ⟨Int32.not_lt.mp (fun y => q (Or.inl y)), Int32.not_lt.mp (fun y => q (Or.inr y))⟩ N
    obtain ⟨h2, j, S', a1, a2, a3, a4, a5, a6, a7, _, _⟩ := op_end l G (wt := 0) (b := b) TL hT (KO_sI (by decide) O) (MMH_f T.1 (MFR_sI (by decide)) M) (NM_u (by decide) (by decide) nu) (by rw [show u2 S 1 0 c 20 = S 20 from funext fun j => by rw [u2_row (by decide)]]; exact z) len (fun Y hY hV => m_window_ok N.1 N.2.1 (in_1 q) hT.1 hY hV)
    refine Or.inl ⟨h2, S', hI h fH_windowWidth (A 0), c_window_ok l G hkH q a1 a7, ?_, a3, a4, a5, a6.1, KP_t KP_sI a6.2.1, a6.2.2⟩
    rw [a2, T.2.2.2.2.2.2.2.2]
theorem op_ask (l : Launch) (G : Gl) {A : Nat → Nat} {m b : Nat} {h : Hp} {S : MM} (H : CI A m h S b) (x c : Int32) :
    (∃ (h2 : Hp) (S' : MM) (v : Int32), MRw l G yX11_ask (.code yX11_ask cX11_ask 5 (Option.some Jvm.ClassFile.FieldType.int)) 12 8 200 [.ref (A 0), .int x, .int c] h (.inl (some (.int v), h2)) ∧ m_ask S x c = some (v, S') ∧ OKr A m h S b h2 S') ∨
    (MRw l G yX11_ask (.code yX11_ask cX11_ask 5 (Option.some Jvm.ClassFile.FieldType.int)) 12 8 200 [.ref (A 0), .int x, .int c] h (.inr (xI, h)) ∧ m_ask S x c = some (0, u2 S 0 0 1)) ∨
    (MRw l G yX11_ask (.code yX11_ask cX11_ask 5 (Option.some Jvm.ClassFile.FieldType.int)) 12 8 200 [.ref (A 0), .int x, .int c] h (.inr (xA, h)) ∧ m_ask S x c = some (0, u2 S 0 0 2)) := by
  obtain ⟨D, n, R, Ee, is, ss, ra, pa, Dd, Pl, dP, T, N, O, hl, M, nu, z, len, ky⟩ := H
  have hkH := T.2.1.1.1
  rcases isRule_cs (x := x) N.1.2.1.1 with ⟨r, hr, ex, hi⟩ | ⟨hx, hi⟩
  · subst ex
    by_cases q : c < -1 ∨ 2000 < c
    · refine Or.inr (Or.inr ⟨c_ask_x2 l G hkH (ru_ok T hr) q, ?_⟩)
      rw [m_ask_no (Or.inr (in_0 q)), hi, if_neg (by decide)]
    · have TL := TLD_as (v := c) hr T
      have hv : c = -1 ∨ 0 ≤ c := by
        have h1 := Int32.not_lt.mp (fun y => q (Or.inl y))
        have e1 : (-1 : Int32).toInt = -1 := rfl
        have e2 : (0 : Int32).toInt = 0 := rfl
        have h2 := Int32.le_iff_toInt_le.mp h1
        rw [e1] at h2
        by_cases y : c.toInt = -1
        · exact Or.inl (Int32.toInt_inj.mp y)
        · exact Or.inr (Int32.le_iff_toInt_le.mpr (by rw [e2]; omega))
      have hT := TNR_as (q := r) hv N
      obtain ⟨h2, j, S', a1, a2, a3, a4, a5, a6, a7, _, _⟩ := op_end l G (wt := 0) (b := b) TL hT (KO_sI (by decide) O) (MMH_f T.1 (MFR_sI (by decide)) M) (NM_u (by decide) (by decide) nu) (by rw [show u2 S 19 r c 20 = S 20 from funext fun j => by rw [u2_row (by decide)]]; exact z) len (fun Y hY hV => m_ask_ok N.1 N.2.1 hr hi (in_1 q) hT.1 hY hV)
      refine Or.inl ⟨h2, S', hI h fU_least (ra r), c_ask_ok l G hkH (ru_ok T hr) (T.2.2.2.2.2.1.2.2 r hr).2.2.2.1.1 q a1 a7, ?_, a3, a4, a5, a6.1, KP_t KP_sI a6.2.1, a6.2.2⟩
      rw [a2, (T.2.2.2.2.2.1.2.2 r hr).1.1]
  · refine Or.inr (Or.inl ⟨c_ask_x1 l G hkH (ru_no T hx), ?_⟩)
    rw [m_ask_no (Or.inl hi), hi, if_pos rfl]
theorem op_text (l : Launch) (G : Gl) {A : Nat → Nat} {m b : Nat} {h : Hp} {S : MM} (H : CI A m h S b) (x c : Int32) :
    (∃ (h2 : Hp) (S' : MM) (v : Int32), MRw l G yX11_text (.code yX11_text cX11_text 5 (Option.some Jvm.ClassFile.FieldType.int)) 12 8 200 [.ref (A 0), .int x, .int c] h (.inl (some (.int v), h2)) ∧ m_text S x c = some (v, S') ∧ OKr A m h S b h2 S') ∨
    (MRw l G yX11_text (.code yX11_text cX11_text 5 (Option.some Jvm.ClassFile.FieldType.int)) 12 8 200 [.ref (A 0), .int x, .int c] h (.inr (xI, h)) ∧ m_text S x c = some (0, u2 S 0 0 1)) ∨
    (MRw l G yX11_text (.code yX11_text cX11_text 5 (Option.some Jvm.ClassFile.FieldType.int)) 12 8 200 [.ref (A 0), .int x, .int c] h (.inr (xA, h)) ∧ m_text S x c = some (0, u2 S 0 0 2)) := by
  obtain ⟨D, n, R, Ee, is, ss, ra, pa, Dd, Pl, dP, T, N, O, hl, M, nu, z, len, ky⟩ := H
  have hkH := T.2.1.1.1
  have hS := N.1.1
  cases hp : plc S n x with
  | none =>
    refine Or.inr (Or.inl ⟨c_text_x1 l G hkH (el_no T hp), ?_⟩)
    rw [m_text_no hS (Or.inl hp), hp, if_pos rfl]
  | some p =>
    have hpn := (plc_lt hp).1
    by_cases q : c < 0 ∨ 99999999 < c
    · refine Or.inr (Or.inr ⟨c_text_x2 l G hkH (el_ok T hp) q, ?_⟩)
      rw [m_text_no hS (Or.inr (q.elim Or.inl (fun y => Or.inr (Or.inl ?_)))), hp, if_neg (fun y => by cases y)]
      have e1 : (99999999 : Int32).toInt = 99999999 := rfl
      have e2 : (100000000 : Int32).toInt = 100000000 := rfl
      have y := Int32.lt_iff_toInt_lt.mp y
      exact Int32.le_iff_toInt_le.mpr (by rw [e2]; omega)
    · obtain ⟨wd, hw31, ew⟩ := nI_of (fun y => q (Or.inl y))
      subst ew
      have hw : wd < 100000000 := Nat.lt_of_not_le fun y => q (Or.inr (show nI 99999999 < nI wd from nI_lt (by omega) hw31))
      by_cases h0 : 0 ∈ dg 8 wd
      · refine Or.inr (Or.inr ⟨c_text_x3 l G hkH (el_ok T hp) hw h0, ?_⟩)
        rw [m_text_no hS (Or.inr (Or.inr (Or.inr ⟨wd, rfl, hw, h0⟩))), hp, if_neg (fun y => by cases y)]
      · have TL := TLD_el (v := nI wd) (Or.inr (Or.inl ⟨rfl, rfl⟩)) hpn T
        have hT := TNR_el (p := p) (v := nI wd) (Or.inr (Or.inl ⟨rfl, wd, hw, rfl⟩)) N
        obtain ⟨h2, j, S', a1, a2, a3, a4, a5, a6, a7, _, _⟩ := op_end l G (wt := 0) (b := b) TL hT (KO_sI (by decide) O) (MMH_f T.1 (MFR_sI (by decide)) M) (NM_u (by decide) (by decide) nu) (by rw [show u2 S 8 p (nI wd) 20 = S 20 from funext fun j => by rw [u2_row (by decide)]]; exact z) len (fun Y hY hV => m_text_ok N.1 N.2.1 hp hw h0 hT.1 hY hV)
        exact Or.inl ⟨h2, S', nI (dg 8 wd).length, c_text_ok l G hkH (el_ok T hp) (T.2.2.2.1.2.1 _ (Ee_m hpn)).1 hw h0 a1 a7, a2, a3, a4, a5, a6.1, KP_t KP_sI a6.2.1, a6.2.2⟩
