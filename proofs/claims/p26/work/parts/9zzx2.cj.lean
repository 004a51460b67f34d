/-! ===== a house at rest, alone (by gencj.py) ===== -/
def CJ (A : Nat → Nat) (h : Hp) (S : MM) (b n R : Nat) : Prop := ∃ (m : Nat) (D : Nat → Nat) (Ee : Nat → Nat) (is ss : List Nat) (ra : Nat → Nat) (pa : Nat → Nat → Nat) (Dd Pl dP : Nat → Nat),
  TLD A D m h S n R Ee is ss ra pa Dd Pl dP ∧ TNR S n R ∧ KO h S n some Ee ∧ NM S n b ∧ (∀ i, 14 * R ≤ i → S 20 i = 0) ∧ n + is.length ≤ 24 ∧ KY S n R
/-- what is told, with what is found -/
def mkS (T Y : MM) : MM := fun k j => if k = 23 then Y (j / 14) (j % 14) else if k = 24 then Y (j / 14) (14 + j % 14) else if k = 25 then (if Y (j / 4) 29 = 0 then -1 else Y (j / 4) (30 + j % 4)) else if k = 26 then (if Y j 29 = 0 then 0 else Y j 34) else T k j
theorem mkS_g (T Y : MM) : TG T (mkS T Y) := fun k h1 h2 => funext fun j => by
  unfold mkS
  rw [if_neg (by omega), if_neg (by omega), if_neg (by omega), if_neg (by omega)]
theorem mkS_v (T Y : MM) (e : Nat) : GV (mkS T Y) Y e ∧ GE (mkS T Y) Y e := by
  refine ⟨fun p hp => ⟨?_, ?_⟩, fun i hi => ?_, ?_⟩
  · show Y ((14 * e + p) / 14) ((14 * e + p) % 14) = _
    rw [show (14 * e + p) / 14 = e by omega, show (14 * e + p) % 14 = p by omega]
  · show Y ((14 * e + p) / 14) (14 + (14 * e + p) % 14) = _
    rw [show (14 * e + p) / 14 = e by omega, show (14 * e + p) % 14 = p by omega]
  · show (if Y ((4 * e + i) / 4) 29 = 0 then -1 else Y ((4 * e + i) / 4) (30 + (4 * e + i) % 4)) = _
    rw [show (4 * e + i) / 4 = e by omega, show (4 * e + i) % 4 = i by omega]
  · rfl
/-- the end of every call that changes what is told -/
theorem cj_end (l : Launch) (G : Gl) {A D : Nat → Nat} {m b wt : Nat} {h : Hp} {S T : MM} {n R : Nat} {mt : Nat → Option Nat} {Ee : Nat → Nat} {is ss : List Nat} {ra : Nat → Nat} {pa : Nat → Nat → Nat} {Dd Pl dP : Nat → Nat} (TL : TLD A D m h T n R Ee is ss ra pa Dd Pl dP) (hT : TNR T n R) (hKO : KO h S n mt Ee) (nu : NM T n b) (z : ∀ i, 14 * R ≤ i → T 20 i = 0) (len : n + is.length ≤ 24) :
    ∃ (h2 : Hp) (j : Nat) (S' : MM), MRw l G yX11_settle (.code yX11_settle cX11_settle 4 none) 11 j (60 * j) [.ref (A 0), .int (nI wt)] h (.inl (none, h2)) ∧ TG T S' ∧ CJ A h2 S' b n R ∧ STY h h2 ∧ j ≤ 3 ∧ FXD A h2 ∧ (∀ f x, f ≠ fA_modCount → f ≠ fA_size → (f < 258 ∨ 266 < f) → f ≠ fH_lastReached → hI h2 f x = hI h f x) := by
  obtain ⟨h2, d', j, Y, hY, hV, MM1, TL2, hl, hk, F, F2, ph⟩ := st_s l G (wt := wt) TL hT hKO
  have g := mkS_g T Y
  refine ⟨h2, j, mkS T Y, MM1, g, ⟨m, up9 D d', Ee, is, ss, ra, pa, Dd, Pl, dP, TLD_S g TL2, TNR_S g hT, hk _ (fun e _ => mkS_v T Y e), NM_S g nu, ?_, len, Y, LE_c g hY, hV, fun e _ => mkS_v T Y e⟩, ⟨TL2.1, F.1, F.2.2.2.2⟩, ?_, TL2.2.1, F2.2.2.1⟩
  · rw [g 20 (by decide) (by decide)]
    exact z
  · have : Ph h (D 9) ≤ 3 := by
      unfold Ph
      split
      · omega
      · split
        · omega
        · split <;> omega
    omega

theorem cj_dress (l : Launch) (G : Gl) {A : Nat → Nat} {b n R : Nat} {h : Hp} {S : MM} (H : CJ A h S b n R) {x c : Int32} {p : Nat} (hp : plc S n x = some p) (q : ¬ (c < 0 ∨ 255 < c)) : ∃ (h2 : Hp) (S' : MM), MRw l G yX11_dress (.code yX11_dress cX11_dress 5 (Option.some Jvm.ClassFile.FieldType.int)) 12 8 200 [.ref (A 0), .int x, .int c] h (.inl (some (.int (S 7 p)), h2)) ∧ TG (u2 S 7 p c) S' ∧ CJ A h2 S' b n R ∧ STY h h2 := by
  obtain ⟨m, D, Ee, is, ss, ra, pa, Dd, Pl, dP, T, N, O, nu, z, len, ky⟩ := H
  have hkH := T.2.1.1.1
  have hS := N.1.1
  have hpn := (plc_lt hp).1
  have TL := TLD_el (v := c) (Or.inl ⟨rfl, rfl⟩) hpn T
  have hT := TNR_el (p := p) (v := c) (Or.inl rfl) N
  obtain ⟨h2, j, S', a1, a2, a3, a4, a5, _, _⟩ := cj_end l G (wt := 0) (b := b) TL hT (KO_sI (by decide) O) (NM_u (by decide) (by decide) nu) (by rw [show u2 S 7 p c 20 = S 20 from funext fun j => by rw [u2_row (by decide)]]; exact z) len
  refine ⟨h2, S', ?_, a2, a3, a4.1, KP_t KP_sI a4.2.1, a4.2.2⟩
  rw [← (T.2.2.2.2.1.2 p hpn).1.2.2.1]
  exact c_dress_ok l G hkH (el_ok T hp) (T.2.2.2.1.2.1 _ (Ee_m hpn)).1 q a1 a5

theorem cj_contain (l : Launch) (G : Gl) {A : Nat → Nat} {b n R : Nat} {h : Hp} {S : MM} (H : CJ A h S b n R) {x c : Int32} {p : Nat} (hp : plc S n x = some p) (hc : c = 0 ∨ c = 1) : ∃ (h2 : Hp) (S' : MM), MRw l G yX11_contain (.code yX11_contain cX11_contain 5 (Option.some Jvm.ClassFile.FieldType.boolean)) 12 8 200 [.ref (A 0), .int x, .int c] h (.inl (some (.int (S 9 p)), h2)) ∧ TG (u2 S 9 p c) S' ∧ CJ A h2 S' b n R ∧ STY h h2 := by
  obtain ⟨m, D, Ee, is, ss, ra, pa, Dd, Pl, dP, T, N, O, nu, z, len, ky⟩ := H
  have hkH := T.2.1.1.1
  have hS := N.1.1
  have hpn := (plc_lt hp).1
  have TL := TLD_el (v := c) (Or.inr (Or.inr ⟨rfl, rfl⟩)) hpn T
  have hT := TNR_el (p := p) (v := c) (Or.inr (Or.inr ⟨rfl, hc⟩)) N
  have e9 := (T.2.2.2.2.1.2 p hpn).1.2.2.2.2
  have h9 := N.2.2.1 p hpn
  obtain ⟨h2, j, S', a1, a2, a3, a4, a5, _, _⟩ := cj_end l G (wt := 0) (b := b) TL hT (KO_sI (by decide) O) (NM_u (by decide) (by decide) nu) (by rw [show u2 S 9 p c 20 = S 20 from funext fun j => by rw [u2_row (by decide)]]; exact z) len
  refine ⟨h2, S', ?_, a2, a3, a4.1, KP_t KP_sI a4.2.1, a4.2.2⟩
  rw [← e9]
  exact c_contain_ok l G hkH (el_ok T hp) (T.2.2.2.1.2.1 _ (Ee_m hpn)).1 (by rw [e9]; exact h9) hc a1 a5

theorem cj_window (l : Launch) (G : Gl) {A : Nat → Nat} {b n R : Nat} {h : Hp} {S : MM} (H : CJ A h S b n R) {c : Int32} (q : ¬ (c < 0 ∨ 2000 < c)) : ∃ (h2 : Hp) (S' : MM), MRw l G yX11_window (.code yX11_window cX11_window 3 (Option.some Jvm.ClassFile.FieldType.int)) 12 8 200 [.ref (A 0), .int c] h (.inl (some (.int (S 1 0)), h2)) ∧ TG (u2 S 1 0 c) S' ∧ CJ A h2 S' b n R ∧ STY h h2 := by
  obtain ⟨m, D, Ee, is, ss, ra, pa, Dd, Pl, dP, T, N, O, nu, z, len, ky⟩ := H
  have hkH := T.2.1.1.1
  have hS := N.1.1
  have TL := TLD_wi (v := c) T
  have hT := TNR_wi (v := c) ⟨Int32.not_lt.mp (fun y => q (Or.inl y)), Int32.not_lt.mp (fun y => q (Or.inr y))⟩ N
  obtain ⟨h2, j, S', a1, a2, a3, a4, a5, _, _⟩ := cj_end l G (wt := 0) (b := b) TL hT (KO_sI (by decide) O) (NM_u (by decide) (by decide) nu) (by rw [show u2 S 1 0 c 20 = S 20 from funext fun j => by rw [u2_row (by decide)]]; exact z) len
  refine ⟨h2, S', ?_, a2, a3, a4.1, KP_t KP_sI a4.2.1, a4.2.2⟩
  rw [← T.2.2.2.2.2.2.2.2]
  exact c_window_ok l G hkH q a1 a5

theorem cj_ask (l : Launch) (G : Gl) {A : Nat → Nat} {b n R : Nat} {h : Hp} {S : MM} (H : CJ A h S b n R) {c : Int32} {r : Nat} (hr : r < R) (q : ¬ (c < -1 ∨ 2000 < c)) : ∃ (h2 : Hp) (S' : MM), MRw l G yX11_ask (.code yX11_ask cX11_ask 5 (Option.some Jvm.ClassFile.FieldType.int)) 12 8 200 [.ref (A 0), .int (nI r), .int c] h (.inl (some (.int (S 19 r)), h2)) ∧ TG (u2 S 19 r c) S' ∧ CJ A h2 S' b n R ∧ STY h h2 := by
  obtain ⟨m, D, Ee, is, ss, ra, pa, Dd, Pl, dP, T, N, O, nu, z, len, ky⟩ := H
  have hkH := T.2.1.1.1
  have hS := N.1.1
  have TL := TLD_as (v := c) hr T
  have hv : c = -1 ∨ 0 ≤ c := by
    have h1 := Int32.not_lt.mp (fun y => q (Or.inl y))
    have e1 : (-1 : Int32).toInt = -1 := rfl
    have e2 : (0 : Int32).toInt = 0 := rfl
    have h2 := Int32.le_iff_toInt_le.mp h1
    rw [e1] at h2
    by_cases y : c.toInt = -1
    · exact Or.inl (Int32.toInt_inj.mp y)
    · exact Or.inr (Int32.le_iff_toInt_le.mpr (by rw [e2]; omega))
  have hT := TNR_as (q := r) hv N
  obtain ⟨h2, j, S', a1, a2, a3, a4, a5, _, _⟩ := cj_end l G (wt := 0) (b := b) TL hT (KO_sI (by decide) O) (NM_u (by decide) (by decide) nu) (by rw [show u2 S 19 r c 20 = S 20 from funext fun j => by rw [u2_row (by decide)]]; exact z) len
  refine ⟨h2, S', ?_, a2, a3, a4.1, KP_t KP_sI a4.2.1, a4.2.2⟩
  rw [← (T.2.2.2.2.2.1.2.2 r hr).1.1]
  exact c_ask_ok l G hkH (ru_ok T hr) (T.2.2.2.2.2.1.2.2 r hr).2.2.2.1.1 q a1 a5

theorem cj_text (l : Launch) (G : Gl) {A : Nat → Nat} {b n R : Nat} {h : Hp} {S : MM} (H : CJ A h S b n R) {x : Int32} {p wd : Nat} (hp : plc S n x = some p) (hw : wd < 100000000) (h0 : ¬ 0 ∈ dg 8 wd) : ∃ (h2 : Hp) (S' : MM), MRw l G yX11_text (.code yX11_text cX11_text 5 (Option.some Jvm.ClassFile.FieldType.int)) 12 8 200 [.ref (A 0), .int x, .int (nI wd)] h (.inl (some (.int (nI (dg 8 wd).length)), h2)) ∧ TG (u2 S 8 p (nI wd)) S' ∧ CJ A h2 S' b n R ∧ STY h h2 := by
  obtain ⟨m, D, Ee, is, ss, ra, pa, Dd, Pl, dP, T, N, O, nu, z, len, ky⟩ := H
  have hkH := T.2.1.1.1
  have hS := N.1.1
  have hpn := (plc_lt hp).1
  have TL := TLD_el (v := nI wd) (Or.inr (Or.inl ⟨rfl, rfl⟩)) hpn T
  have hT := TNR_el (p := p) (v := nI wd) (Or.inr (Or.inl ⟨rfl, wd, hw, rfl⟩)) N
  obtain ⟨h2, j, S', a1, a2, a3, a4, a5, _, _⟩ := cj_end l G (wt := 0) (b := b) TL hT (KO_sI (by decide) O) (NM_u (by decide) (by decide) nu) (by rw [show u2 S 8 p (nI wd) 20 = S 20 from funext fun j => by rw [u2_row (by decide)]]; exact z) len
  exact ⟨h2, S', c_text_ok l G hkH (el_ok T hp) (T.2.2.2.1.2.1 _ (Ee_m hpn)).1 hw h0 a1 a5, a2, a3, a4.1, KP_t KP_sI a4.2.1, a4.2.2⟩

theorem cj_value (l : Launch) (G : Gl) {A : Nat → Nat} {b n R : Nat} {h : Hp} {S : MM} (H : CJ A h S b n R) {x : Int32} {p i : Nat} (hp : plc S n x = some p) (hi : i < 14) : MRw l G yX11_value (.code yX11_value cX11_value 4 (Option.some Jvm.ClassFile.FieldType.int)) 12 8 200 [.ref (A 0), .int x, .int (nI i)] h (.inl (some (.int (S 23 (14 * p + i))), h)) := by
  obtain ⟨m, D, Ee, is, ss, ra, pa, Dd, Pl, dP, T, N, O, nu, z, len, ky⟩ := H
  have hkH := T.2.1.1.1
  have hS := N.1.1
  have hpn := (plc_lt hp).1
  obtain ⟨y1, _, _, y4, y5⟩ := T.2.2.2.1.2.1 _ (Ee_m (is := is) hpn)
  have hk : LKo h (kpt h (Ee p)) S p := O p hpn
  rw [← (hk.2.1 i hi).1]
  exact c_value_ok l G hkH (el_ok T hp) y1 y4 y5 hi

theorem cj_from (l : Launch) (G : Gl) {A : Nat → Nat} {b n R : Nat} {h : Hp} {S : MM} (H : CJ A h S b n R) {x : Int32} {p i : Nat} (hp : plc S n x = some p) (hi : i < 14) : MRw l G yX11_from (.code yX11_from cX11_from 4 (Option.some Jvm.ClassFile.FieldType.int)) 12 8 200 [.ref (A 0), .int x, .int (nI i)] h (.inl (some (.int (S 24 (14 * p + i))), h)) := by
  obtain ⟨m, D, Ee, is, ss, ra, pa, Dd, Pl, dP, T, N, O, nu, z, len, ky⟩ := H
  have hkH := T.2.1.1.1
  have hS := N.1.1
  have hpn := (plc_lt hp).1
  obtain ⟨y1, _, _, y4, y5⟩ := T.2.2.2.1.2.1 _ (Ee_m (is := is) hpn)
  have hk : LKo h (kpt h (Ee p)) S p := O p hpn
  rw [← (hk.2.1 i hi).2]
  exact c_from_ok l G hkH (el_ok T hp) y1 y4 y5 hi

theorem cj_box (l : Launch) (G : Gl) {A : Nat → Nat} {b n R : Nat} {h : Hp} {S : MM} (H : CJ A h S b n R) {x : Int32} {p i : Nat} (hp : plc S n x = some p) (hi : i < 4) : MRw l G yX11_box (.code yX11_box cX11_box 4 (Option.some Jvm.ClassFile.FieldType.int)) 12 8 200 [.ref (A 0), .int x, .int (nI i)] h (.inl (some (.int (S 25 (4 * p + i))), h)) := by
  obtain ⟨m, D, Ee, is, ss, ra, pa, Dd, Pl, dP, T, N, O, nu, z, len, ky⟩ := H
  have hkH := T.2.1.1.1
  have hS := N.1.1
  have hpn := (plc_lt hp).1
  obtain ⟨y1, _, _, y4, y5⟩ := T.2.2.2.1.2.1 _ (Ee_m (is := is) hpn)
  have hk : LKo h (kpt h (Ee p)) S p := O p hpn
  rw [← lme_o hi hk]
  exact c_box_ok l G hkH (el_ok T hp) y1 y4 y5.1 hi

theorem cj_lines (l : Launch) (G : Gl) {A : Nat → Nat} {b n R : Nat} {h : Hp} {S : MM} (H : CJ A h S b n R) {x : Int32} {p : Nat} (hp : plc S n x = some p) : MRw l G yX11_lines (.code yX11_lines cX11_lines 2 (Option.some Jvm.ClassFile.FieldType.int)) 12 8 200 [.ref (A 0), .int x] h (.inl (some (.int (S 26 p)), h)) := by
  obtain ⟨m, D, Ee, is, ss, ra, pa, Dd, Pl, dP, T, N, O, nu, z, len, ky⟩ := H
  have hkH := T.2.1.1.1
  have hS := N.1.1
  have hpn := (plc_lt hp).1
  obtain ⟨y1, _, _, y4, y5⟩ := T.2.2.2.1.2.1 _ (Ee_m (is := is) hpn)
  have hk : LKo h (kpt h (Ee p)) S p := O p hpn
  have e : hI h fL_lineCount (kpt h (Ee p)) = S 26 p := by
    rcases hk.2.2 with ⟨_, _, _, _, _, c5, _, c7⟩ | ⟨_, _, _, _, _, _, c6⟩
    · rw [c5, c7]
    · rw [c6]
  rw [← e]
  exact c_lines_ok l G hkH (el_ok T hp) y1 y4 y5.1

theorem cj_old {A : Nat → Nat} {b n R : Nat} {h h' : Hp} {S : MM} (g' : Good h') (F : OLD h h') (H : CJ A h S b n R) : CJ A h' S b n R := by
  obtain ⟨m, D, Ee, is, ss, ra, pa, Dd, Pl, dP, T, N, O, nu, z, len, ky⟩ := H
  exact ⟨m, D, Ee, is, ss, ra, pa, Dd, Pl, dP, TLD_old g' F T, N, KO_old T.1 F (fun e he => T.2.2.2.1.2.1 _ (Ee_m he)) O, nu, z, len, ky⟩

theorem dj_ok (l : Launch) (G : Gl) {A D : Nat → Nat} {m b : Nat} {h h0 : Hp} {S : MM} {n R r p d : Nat} {k v f : Int32} {Ee : Nat → Nat} {is ss : List Nat} {ra : Nat → Nat} {pa : Nat → Nat → Nat} {Dd Pl dP : Nat → Nat} (T : TLD A D m h S n R Ee is ss ra pa Dd Pl dP) (N : TNR S n R) (O : KO h S n some Ee) (nu : NM S n b) (z : ∀ i, 14 * R ≤ i → S 20 i = 0) (len : n + is.length ≤ 24)
    (hr : r < R) (hp : p ≤ 14) (g0 : Good h0) (F : OLD h h0) (hd : DN h0 d k v f) (h1 : VD (dlo p) k v f) (h2 : VD (dhi p) k v f) (h6 : cntD S r p ≤ 6) :
    ∃ (h2 : Hp) (j : Nat) (S' : MM), MRw l G yX11_putInto (.code yX11_putInto cX11_putInto 3 none) 8 1 6 [.ref (ra r), .int (nI p), .ref d] h0 (.inl (none, puO h0 (ra r) (Dd r) p d)) ∧ hK (puO h0 (ra r) (Dd r) p d) (A 0) = 9 ∧ MRw l G yX11_settle (.code yX11_settle cX11_settle 4 none) 11 j (60 * j) [.ref (A 0), .int (nI 0)] (puO h0 (ra r) (Dd r) p d) (.inl (none, h2)) ∧ j ≤ 3 ∧ hK h2 (ra r) = 6 ∧ hI h2 fU_declarationCount (ra r) = nI (cntD S r p) ∧ TG (tDec S r p k v f) S' ∧ CJ A h2 S' b n R ∧ STY h h2 := by
  have T0 := TLD_old g0 F T
  have hRr := T0.2.2.2.2.2.1.2.2 r hr
  have hk0 : k ≠ 0 := by
    rcases hd.2 with y | y | y
    · rw [y.1]; decide
    · rw [y.1]; decide
    · rw [y.1]; decide
  have Mp := c_putInto l G hRr.2.2.2.1 hp hd.1 (by rw [cwO_s hp hRr]; exact nI_nlt (a := 6) h6 (by decide))
  have T1 : TLD A D m (puO h0 (ra r) (Dd r) p d) (tDec S r p k v f) n R Ee is ss ra pa Dd Pl dP := by
    unfold puO
    by_cases y : p = 14
    · subst y
      rw [if_pos rfl, tDec_2]
      exact TLD_p1 hr (by decide) (DN_pt hd) (TLD_p1 hr (by decide) hd T0)
    · rw [if_neg y, tDec_1 y]
      exact TLD_p1 hr (by omega) hd T0
  have hE : ∀ a, 1 ≤ a → a ≤ 19 → tDec S r p k v f a = S a := fun a _ h19 => tDec_o h19
  have N1 := TNR_dc hE (tDec_D hp h1 h2 N.1.2.2.1) N
  obtain ⟨f1, f2, f3, f4, f5⟩ := pu_fr h0 (ra r) (Dd r) p d
  have O1 : KO (puO h0 (ra r) (Dd r) p d) S n some Ee := KO_I (fun g a1 a2 => f5 g (fun y => by rw [y] at a2; exact absurd a2 (by decide))) f2 f3 (KO_old T.1 F (fun e he => T.2.2.2.1.2.1 _ (Ee_m he)) O)
  obtain ⟨h3, j, S', a1, a2, a3, a6, a7, a8, a9⟩ := cj_end l G (wt := 0) (b := b) T1 N1 O1 (NM_dc hE nu) (fun i hi2 => by rw [tDec_n hp hr hi2]; exact z i hi2) len
  have hR1 := T1.2.2.2.2.2.1.2.2 r hr
  refine ⟨h3, j, S', Mp, T1.2.1.1.1, a1, a7, KP_k T1.1 a6.2.1 hR1.2.2.2.1.1 (by decide), ?_, a2, a3, a6.1, KP_t F.1 (KP_t f1 a6.2.1), ?_⟩
  · rw [a9 _ _ (by decide) (by decide) (by decide) (by decide), hR1.1.2.2.2.2, cnt_tDec hp hk0]
  · rw [a6.2.2, f4, F.2.2.2.2.2]

theorem cj_declare (l : Launch) (G : Gl) {A : Nat → Nat} {b n R : Nat} {h : Hp} {S : MM} (H : CJ A h S b n R) {r p : Nat} {v : Int32} (qv : m_canBe (nI p) v = 1 ∨ v = -2 ∧ p < 3) (hr : r < R) (hp : p ≤ 14) (h6 : cntD S r p ≤ 6) : ∃ (h2 : Hp) (S' : MM), MRw l G yX11_declare (.code yX11_declare cX11_declare 5 (Option.some Jvm.ClassFile.FieldType.int)) 12 30 600 [.ref (A 0), .int (nI r), .int (nI p), .int v] h (.inl (some (.int (nI (cntD S r p))), h2)) ∧ TG (tDec S r p 1 v (-1)) S' ∧ CJ A h2 S' b n R ∧ STY h h2 := by
  obtain ⟨m, D, Ee, is, ss, ra, pa, Dd, Pl, dP, T, N, O, nu, z, len, ky⟩ := H
  have hkH := T.2.1.1.1
  have hS := N.1.1
  have qc : (if pLe (pq p) ≤ v ∧ v ≤ pGr (pq p) then (1 : Int32) else 0) ≠ 0 ∨ v = -2 ∧ p < 3 := by
    rw [canBe_i hp]
    rcases qv with q | q
    · exact Or.inl (by rw [q]; decide)
    · exact Or.inr q
  have V : ∀ p', (p' = dlo p ∨ p' = dhi p) → VD p' 1 v (-1) := fun p' hp' => Or.inl ⟨rfl, by
    rcases qv with q | q
    · obtain ⟨c1, c2⟩ := canBe_l hp q
      rcases hp' with e | e <;> rw [e]
      · exact Or.inl c1
      · exact Or.inl c2
    · have e1 : dlo p = p := if_neg (by omega)
      have e2 : dhi p = p := if_neg (by omega)
      rcases hp' with e | e
      · rw [e, e1]; exact Or.inr ⟨q.2, q.1⟩
      · rw [e, e2]; exact Or.inr ⟨q.2, q.1⟩⟩
  have g0 := nwD_g (x0 := 4) (x1 := v) (x2 := -1) T.1
  have F := nwD_O h 4 v (-1)
  obtain ⟨_, w2, w3, w4, w5, w6, w7⟩ := nwD_s h 4 v (-1)
  obtain ⟨h2, j, S', Mp, k9, Ms, hj, k6, cc, e1, e2, e3⟩ := dj_ok l G (b := b) (k := 1) (v := v) (f := -1) T N O nu z len hr hp g0 F ⟨w2, Or.inl ⟨rfl, w5, w6⟩⟩ (V _ (Or.inl rfl)) (V _ (Or.inr rfl)) h6
  refine ⟨h2, S', ?_, e1, e2, e3⟩
  rw [← cc]
  exact c_declare_ok l G hkH (ru_ok T hr) hp qc Mp k9 Ms hj k6
theorem cj_declare_x (l : Launch) (G : Gl) {A : Nat → Nat} {b n R : Nat} {h : Hp} {S : MM} (H : CJ A h S b n R) {r p : Nat} {v : Int32} (qv : m_canBe (nI p) v = 1 ∨ v = -2 ∧ p < 3) (hr : r < R) (hp : p ≤ 14) (h6 : 6 < cntD S r p) : ∃ h2 : Hp, MRw l G yX11_declare (.code yX11_declare cX11_declare 5 (Option.some Jvm.ClassFile.FieldType.int)) 12 30 600 [.ref (A 0), .int (nI r), .int (nI p), .int v] h (.inr (xS, h2)) ∧ CJ A h2 S b n R ∧ STY h h2 := by
  have HH := H
  obtain ⟨m, D, Ee, is, ss, ra, pa, Dd, Pl, dP, T, N, O, nu, z, len, ky⟩ := H
  have hkH := T.2.1.1.1
  have hS := N.1.1
  have qc : (if pLe (pq p) ≤ v ∧ v ≤ pGr (pq p) then (1 : Int32) else 0) ≠ 0 ∨ v = -2 ∧ p < 3 := by
    rw [canBe_i hp]
    rcases qv with q | q
    · exact Or.inl (by rw [q]; decide)
    · exact Or.inr q
  have V : ∀ p', (p' = dlo p ∨ p' = dhi p) → VD p' 1 v (-1) := fun p' hp' => Or.inl ⟨rfl, by
    rcases qv with q | q
    · obtain ⟨c1, c2⟩ := canBe_l hp q
      rcases hp' with e | e <;> rw [e]
      · exact Or.inl c1
      · exact Or.inl c2
    · have e1 : dlo p = p := if_neg (by omega)
      have e2 : dhi p = p := if_neg (by omega)
      rcases hp' with e | e
      · rw [e, e1]; exact Or.inr ⟨q.2, q.1⟩
      · rw [e, e2]; exact Or.inr ⟨q.2, q.1⟩⟩
  have g0 := nwD_g (x0 := 4) (x1 := v) (x2 := -1) T.1
  have F := nwD_O h 4 v (-1)
  have Mp := dec_no l G (d := hN h) T hr hp g0 F h6
  exact ⟨_, c_declare_x4 l G hkH (ru_ok T hr) hp qc Mp, cj_old g0 F HH, g0, F.1, F.2.2.2.2.2⟩

theorem cj_say (l : Launch) (G : Gl) {A : Nat → Nat} {b n R : Nat} {h : Hp} {S : MM} (H : CJ A h S b n R) {r p : Nat} {v : Int32} (qv : ¬ (v < 0 ∨ 3 < v)) (hr : r < R) (hp : p ≤ 14) (h6 : cntD S r p ≤ 6) : ∃ (h2 : Hp) (S' : MM), MRw l G yX11_say (.code yX11_say cX11_say 5 (Option.some Jvm.ClassFile.FieldType.int)) 12 30 600 [.ref (A 0), .int (nI r), .int (nI p), .int v] h (.inl (some (.int (nI (cntD S r p))), h2)) ∧ TG (tDec S r p 2 v (-1)) S' ∧ CJ A h2 S' b n R ∧ STY h h2 := by
  obtain ⟨m, D, Ee, is, ss, ra, pa, Dd, Pl, dP, T, N, O, nu, z, len, ky⟩ := H
  have hkH := T.2.1.1.1
  have hS := N.1.1
  obtain ⟨u, hu, eu⟩ := pr_of (hi := 3) (by decide) qv
  have V : ∀ p', VD p' 2 v (-1) := fun p' => Or.inr (Or.inl ⟨rfl, u, hu, eu⟩)
  have g0 := nwD_g (x0 := v) (x1 := -1) (x2 := -1) T.1
  have F := nwD_O h v (-1) (-1)
  obtain ⟨_, w2, w3, w4, w5, w6, w7⟩ := nwD_s h v (-1) (-1)
  obtain ⟨h2, j, S', Mp, k9, Ms, hj, k6, cc, e1, e2, e3⟩ := dj_ok l G (b := b) (k := 2) (v := v) (f := -1) T N O nu z len hr hp g0 F ⟨w2, Or.inr (Or.inl ⟨rfl, w5⟩)⟩ (V _) (V _) h6
  refine ⟨h2, S', ?_, e1, e2, e3⟩
  rw [← cc]
  exact c_say_ok l G hkH (ru_ok T hr) hp qv Mp k9 Ms hj k6
theorem cj_say_x (l : Launch) (G : Gl) {A : Nat → Nat} {b n R : Nat} {h : Hp} {S : MM} (H : CJ A h S b n R) {r p : Nat} {v : Int32} (qv : ¬ (v < 0 ∨ 3 < v)) (hr : r < R) (hp : p ≤ 14) (h6 : 6 < cntD S r p) : ∃ h2 : Hp, MRw l G yX11_say (.code yX11_say cX11_say 5 (Option.some Jvm.ClassFile.FieldType.int)) 12 30 600 [.ref (A 0), .int (nI r), .int (nI p), .int v] h (.inr (xS, h2)) ∧ CJ A h2 S b n R ∧ STY h h2 := by
  have HH := H
  obtain ⟨m, D, Ee, is, ss, ra, pa, Dd, Pl, dP, T, N, O, nu, z, len, ky⟩ := H
  have hkH := T.2.1.1.1
  have hS := N.1.1
  obtain ⟨u, hu, eu⟩ := pr_of (hi := 3) (by decide) qv
  have V : ∀ p', VD p' 2 v (-1) := fun p' => Or.inr (Or.inl ⟨rfl, u, hu, eu⟩)
  have g0 := nwD_g (x0 := v) (x1 := -1) (x2 := -1) T.1
  have F := nwD_O h v (-1) (-1)
  have Mp := dec_no l G (d := hN h) T hr hp g0 F h6
  exact ⟨_, c_say_x4 l G hkH (ru_ok T hr) hp qv Mp, cj_old g0 F HH, g0, F.1, F.2.2.2.2.2⟩

theorem cj_refer (l : Launch) (G : Gl) {A : Nat → Nat} {b n R : Nat} {h : Hp} {S : MM} (H : CJ A h S b n R) {r p : Nat} {u f : Int32} (qu : ¬ (u < 0 ∨ 3 < u)) (qf : f = -1 ∨ m_canBe (nI p) f = 1) (hr : r < R) (hp : p ≤ 14) (h6 : cntD S r p ≤ 6) : ∃ (h2 : Hp) (S' : MM), MRw l G yX11_refer (.code yX11_refer cX11_refer 6 (Option.some Jvm.ClassFile.FieldType.int)) 12 30 600 [.ref (A 0), .int (nI r), .int (nI p), .int u, .int f] h (.inl (some (.int (nI (cntD S r p))), h2)) ∧ TG (tDec S r p 3 u f) S' ∧ CJ A h2 S' b n R ∧ STY h h2 := by
  obtain ⟨m, D, Ee, is, ss, ra, pa, Dd, Pl, dP, T, N, O, nu, z, len, ky⟩ := H
  have hkH := T.2.1.1.1
  have hS := N.1.1
  obtain ⟨u', hu, eu⟩ := pr_of (hi := 3) (by decide) qu
  have qc : f = -1 ∨ (if pLe (pq p) ≤ f ∧ f ≤ pGr (pq p) then (1 : Int32) else 0) ≠ 0 := by
    rw [canBe_i hp]
    rcases qf with q | q
    · exact Or.inl q
    · exact Or.inr (by rw [q]; decide)
  have V : ∀ p', (p' = dlo p ∨ p' = dhi p) → VD p' 3 u f := fun p' hp' => Or.inr (Or.inr ⟨rfl, u', hu, eu, by
    rcases qf with q | q
    · exact Or.inl q
    · obtain ⟨c1, c2⟩ := canBe_l hp q
      rcases hp' with e | e <;> rw [e]
      · exact Or.inr c1
      · exact Or.inr c2⟩)
  have g0 := nwD_g (x0 := 5) (x1 := f) (x2 := u) T.1
  have F := nwD_O h 5 f u
  obtain ⟨_, w2, w3, w4, w5, w6, w7⟩ := nwD_s h 5 f u
  obtain ⟨h2, j, S', Mp, k9, Ms, hj, k6, cc, e1, e2, e3⟩ := dj_ok l G (b := b) (k := 3) (v := u) (f := f) T N O nu z len hr hp g0 F ⟨w2, Or.inr (Or.inr ⟨rfl, w5, w7, w6⟩)⟩ (V _ (Or.inl rfl)) (V _ (Or.inr rfl)) h6
  refine ⟨h2, S', ?_, e1, e2, e3⟩
  rw [← cc]
  exact c_refer_ok l G hkH (ru_ok T hr) hp qu qc Mp k9 Ms hj k6
theorem cj_refer_x (l : Launch) (G : Gl) {A : Nat → Nat} {b n R : Nat} {h : Hp} {S : MM} (H : CJ A h S b n R) {r p : Nat} {u f : Int32} (qu : ¬ (u < 0 ∨ 3 < u)) (qf : f = -1 ∨ m_canBe (nI p) f = 1) (hr : r < R) (hp : p ≤ 14) (h6 : 6 < cntD S r p) : ∃ h2 : Hp, MRw l G yX11_refer (.code yX11_refer cX11_refer 6 (Option.some Jvm.ClassFile.FieldType.int)) 12 30 600 [.ref (A 0), .int (nI r), .int (nI p), .int u, .int f] h (.inr (xS, h2)) ∧ CJ A h2 S b n R ∧ STY h h2 := by
  have HH := H
  obtain ⟨m, D, Ee, is, ss, ra, pa, Dd, Pl, dP, T, N, O, nu, z, len, ky⟩ := H
  have hkH := T.2.1.1.1
  have hS := N.1.1
  obtain ⟨u', hu, eu⟩ := pr_of (hi := 3) (by decide) qu
  have qc : f = -1 ∨ (if pLe (pq p) ≤ f ∧ f ≤ pGr (pq p) then (1 : Int32) else 0) ≠ 0 := by
    rw [canBe_i hp]
    rcases qf with q | q
    · exact Or.inl q
    · exact Or.inr (by rw [q]; decide)
  have V : ∀ p', (p' = dlo p ∨ p' = dhi p) → VD p' 3 u f := fun p' hp' => Or.inr (Or.inr ⟨rfl, u', hu, eu, by
    rcases qf with q | q
    · exact Or.inl q
    · obtain ⟨c1, c2⟩ := canBe_l hp q
      rcases hp' with e | e <;> rw [e]
      · exact Or.inr c1
      · exact Or.inr c2⟩)
  have g0 := nwD_g (x0 := 5) (x1 := f) (x2 := u) T.1
  have F := nwD_O h 5 f u
  have Mp := dec_no l G (d := hN h) T hr hp g0 F h6
  exact ⟨_, c_refer_x4 l G hkH (ru_ok T hr) hp qu qc Mp, cj_old g0 F HH, g0, F.1, F.2.2.2.2.2⟩
