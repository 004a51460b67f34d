/-! ===== the calls declare, say, refer, empty: both sides ===== -/
theorem DN_pt {h : Hp} {r D p d d2 : Nat} {k v f : Int32} (H : DN h d k v f) : DN (ptO h r D p d2) d k v f := by
  unfold DN at *
  have e : ∀ g, g ≠ fU_declarationCount → hI (ptO h r D p d2) g = hI h g := fun g hg => by
    unfold ptO
    rw [hI_sQ, iI_ne hg]
  rw [e _ (by decide), e _ (by decide), e _ (by decide)]
  exact H
theorem pt_fr (h : Hp) (r D p d : Nat) : KP h (ptO h r D p d) ∧ hR (ptO h r D p d) = hR h ∧ hA (ptO h r D p d) = hA h ∧ hW (ptO h r D p d) = hW h ∧ ∀ g, g ≠ fU_declarationCount → hI (ptO h r D p d) g = hI h g :=
  ⟨⟨Nat.le_refl _, fun _ _ => ⟨rfl, rfl⟩⟩, rfl, rfl, rfl, fun g hg => by unfold ptO; rw [hI_sQ, iI_ne hg]⟩
/-- what putInto leaves -/
def puO (h : Hp) (r D p d : Nat) : Hp := if p = 14 then ptO (ptO h r D 3 d) r D 4 d else ptO h r D p d
theorem pu_fr (h : Hp) (r D p d : Nat) : KP h (puO h r D p d) ∧ hR (puO h r D p d) = hR h ∧ hA (puO h r D p d) = hA h ∧ hW (puO h r D p d) = hW h ∧ ∀ g, g ≠ fU_declarationCount → hI (puO h r D p d) g = hI h g := by
  unfold puO
  by_cases q : p = 14
  · rw [if_pos q]
    obtain ⟨a1, a2, a3, a4, a5⟩ := pt_fr h r D 3 d
    obtain ⟨b1, b2, b3, b4, b5⟩ := pt_fr (ptO h r D 3 d) r D 4 d
    exact ⟨KP_t a1 b1, b2.trans a2, b3.trans a3, b4.trans a4, fun g hg => (b5 g hg).trans (a5 g hg)⟩
  · rw [if_neg q]
    exact pt_fr h r D p d
theorem tDec_o {S : MM} {r p : Nat} {k v f : Int32} {a : Nat} (h : a ≤ 19) : tDec S r p k v f a = S a := by
  by_cases q : p = 14
  · subst q
    rw [tDec_2, t3_o h, t3_o h]
  · rw [tDec_1 q, t3_o h]
theorem tDec_n {S : MM} {r p R i : Nat} {k v f : Int32} (hp : p ≤ 14) (hr : r < R) (hi : 14 * R ≤ i) (a : Nat) : tDec S r p k v f a i = S a i := by
  by_cases q : p = 14
  · subst q
    rw [tDec_2, t3_n (by omega), t3_n (by omega)]
  · rw [tDec_1 q, t3_n (by omega)]
theorem tDec_D {S : MM} {R q p : Nat} {k v f : Int32} (hp : p ≤ 14) (h1 : VD (dlo p) k v f) (h2 : VD (dhi p) k v f) (H : TDo S R) : TDo (tDec S q p k v f) R := by
  by_cases z : p = 14
  · subst z
    rw [tDec_2]
    exact t3_D (by decide) h2 (t3_D (by decide) h1 H)
  · have e1 : dlo p = p := if_neg z
    rw [e1] at h1
    rw [tDec_1 z]
    exact t3_D (by omega) h1 H
theorem cnt_tDec {S : MM} {q p : Nat} {k v f : Int32} (hp : p ≤ 14) (hk : k ≠ 0) : cn (dclS (tDec S q p k v f) q) 14 = cntD S q p := by
  unfold cntD
  by_cases z : p = 14
  · subst z
    rw [tDec_2, dcl_t3 (by decide) hk, dcl_t3 (by decide) hk, show dlo 14 = 3 from rfl]
    have e : dclS (t3 S (14 * q + 3) k v f) q 4 = dclS S q 4 := by
      unfold dclS
      rw [t3_n (by omega)]
    rw [e]
    cases dclS S q 4
    · rw [if_neg (show ¬ false = true from fun z => Bool.noConfusion z), if_pos (show 14 = 14 ∧ false = false from ⟨rfl, rfl⟩)]
    · rw [if_pos (show true = true from rfl), if_neg (show ¬ (14 = 14 ∧ true = false) from fun z => Bool.noConfusion z.2)]
  · rw [tDec_1 z, dcl_t3 (by omega) hk, if_neg (show ¬ (p = 14 ∧ dclS S q 4 = false) from fun y => z y.1), show dlo p = p from if_neg z, Nat.add_zero]
theorem cwO_s {S : MM} {h : Hp} {ra : Nat → Nat} {pa : Nat → Nat → Nat} {Dd Pl dP : Nat → Nat} {r p : Nat} (hp : p ≤ 14) (H : TR1 S h ra pa Dd Pl dP r) : cwO h (ra r) (Dd r) p = nI (cntD S r p) := by
  unfold cwO cntD
  rw [H.1.2.2.2.2]
  by_cases z : p = 14
  · subst z
    rw [if_pos rfl, nwo_d (H.2.2.2.2 3 (by decide)).2, nwo_d (H.2.2.2.2 4 (by decide)).2, nI_add, nI_add, show dlo 14 = 3 from rfl]
    cases dclS S r 4
    · rw [if_neg (show ¬ false = true from fun z => Bool.noConfusion z), if_pos (show 14 = 14 ∧ false = false from ⟨rfl, rfl⟩)]
    · rw [if_pos (show true = true from rfl), if_neg (show ¬ (14 = 14 ∧ true = false) from fun z => Bool.noConfusion z.2)]
  · rw [if_neg z, nwo_d (H.2.2.2.2 p (by omega)).2, nI_add, if_neg (show ¬ (p = 14 ∧ dclS S r 4 = false) from fun y => z y.1), show dlo p = p from if_neg z, Nat.add_zero]
theorem dec_ok (l : Launch) (G : Gl) {A D : Nat → Nat} {m b : Nat} {h h0 : Hp} {S : MM} {n R r p d : Nat} {k v f : Int32} {Ee : Nat → Nat} {is ss : List Nat} {ra : Nat → Nat} {pa : Nat → Nat → Nat} {Dd Pl dP : Nat → Nat} (T : TLD A D m h S n R Ee is ss ra pa Dd Pl dP) (N : TNR S n R) (O : KO h S n some Ee) (M : MMH m h S) (nu : NM S n b) (z : ∀ i, 14 * R ≤ i → S 20 i = 0) (len : n + is.length ≤ 24)
    (hr : r < R) (hp : p ≤ 14) (g0 : Good h0) (F : OLD h h0) (hd : DN h0 d k v f) (h1 : VD (dlo p) k v f) (h2 : VD (dhi p) k v f) (h6 : cntD S r p ≤ 6) (hi : m_isRule S (nI r) = 1) :
    ∃ (h2 : Hp) (j : Nat) (S' : MM), MRw l G yX11_putInto (.code yX11_putInto cX11_putInto 3 none) 8 1 6 [.ref (ra r), .int (nI p), .ref d] h0 (.inl (none, puO h0 (ra r) (Dd r) p d)) ∧ hK (puO h0 (ra r) (Dd r) p d) (A 0) = 9 ∧ MRw l G yX11_settle (.code yX11_settle cX11_settle 4 none) 11 j (60 * j) [.ref (A 0), .int (nI 0)] (puO h0 (ra r) (Dd r) p d) (.inl (none, h2)) ∧ j ≤ 3 ∧ hK h2 (ra r) = 6 ∧ hI h2 fU_declarationCount (ra r) = nI (cntD S r p) ∧ m_declares S (nI r) (nI p) 1 k v f = some (nI (cntD S r p), S') ∧ OKr A m h S b h2 S' := by
  have T0 := TLD_old g0 F T
  have hRr := T0.2.2.2.2.2.1.2.2 r hr
  have hk0 : k ≠ 0 := by
    rcases hd.2 with y | y | y
    · rw [y.1]; decide
    · rw [y.1]; decide
    · rw [y.1]; decide
  have Mp := c_putInto l G hRr.2.2.2.1 hp hd.1 (by rw [cwO_s hp hRr]; exact nI_nlt (a := 6) h6 (by decide))
  have T1 : TLD A D m (puO h0 (ra r) (Dd r) p d) (tDec S r p k v f) n R Ee is ss ra pa Dd Pl dP := by
    unfold puO
    by_cases y : p = 14
    · subst y
      rw [if_pos rfl, tDec_2]
      exact TLD_p1 hr (by decide) (DN_pt hd) (TLD_p1 hr (by decide) hd T0)
    · rw [if_neg y, tDec_1 y]
      exact TLD_p1 hr (by omega) hd T0
  have hE : ∀ a, 1 ≤ a → a ≤ 19 → tDec S r p k v f a = S a := fun a _ h19 => tDec_o h19
  have N1 := TNR_dc hE (tDec_D hp h1 h2 N.1.2.2.1) N
  obtain ⟨f1, f2, f3, f4, f5⟩ := pu_fr h0 (ra r) (Dd r) p d
  have O1 : KO (puO h0 (ra r) (Dd r) p d) S n some Ee := KO_I (fun g a1 a2 => f5 g (fun y => by rw [y] at a2; exact absurd a2 (by decide))) f2 f3 (KO_old T.1 F (fun e he => T.2.2.2.1.2.1 _ (Ee_m he)) O)
  have M1 : MMH m (puO h0 (ra r) (Dd r) p d) S := MMH_f g0 ⟨f1, fun g x hg => by rw [f5 g (fun y => by rw [y] at hg; exact absurd hg (by decide))], fun g _ => by rw [f2], fun x _ _ => by rw [f3], f4⟩ (MMH_old T.1 F M)
  obtain ⟨h3, j, S', a1, a2, a3, a4, a5, a6, a7, a8, a9⟩ := op_end l G (wt := 0) (b := b) T1 N1 O1 M1 (NM_dc hE nu) (fun i hi2 => by rw [tDec_n hp hr hi2]; exact z i hi2) len (fun Y hY hV => m_declares_ok N.1 N.2.1 hr hi hp h6 N1.1 hY hV)
  have hR1 := T1.2.2.2.2.2.1.2.2 r hr
  refine ⟨h3, j, S', Mp, T1.2.1.1.1, a1, a7, KP_k T1.1 a6.2.1 hR1.2.2.2.1.1 (by decide), ?_, a2, a3, a4, a5, a6.1, KP_t F.1 (KP_t f1 a6.2.1), ?_⟩
  · rw [a9 _ _ (by decide) (by decide) (by decide) (by decide), hR1.1.2.2.2.2, cnt_tDec hp hk0]
  · rw [a6.2.2, f4, F.2.2.2.2.2]
theorem dec_no (l : Launch) (G : Gl) {A D : Nat → Nat} {m : Nat} {h h0 : Hp} {S : MM} {n R r p d : Nat} {Ee : Nat → Nat} {is ss : List Nat} {ra : Nat → Nat} {pa : Nat → Nat → Nat} {Dd Pl dP : Nat → Nat} (T : TLD A D m h S n R Ee is ss ra pa Dd Pl dP) (hr : r < R) (hp : p ≤ 14) (g0 : Good h0) (F : OLD h h0) (h6 : 6 < cntD S r p) : MRw l G yX11_putInto (.code yX11_putInto cX11_putInto 3 none) 8 1 6 [.ref (ra r), .int (nI p), .ref d] h0 (.inr (xS, h0)) := by
  have T0 := TLD_old g0 F T
  have hRr := T0.2.2.2.2.2.1.2.2 r hr
  have hle := cntD_le (S := S) (r := r) (p := p)
  exact c_putIntoN l G hRr.2.2.2.1 hp (by rw [cwO_s hp hRr]; exact nI_lt (a := 6) h6 (by omega))
/-- after a call that threw and made cells -/
def XKr (A : Nat → Nat) (m : Nat) (h : Hp) (S : MM) (b : Nat) (h2 : Hp) (c : Int32) : Prop := CI A m (pm m h2 (u2 S 0 0 c)) (u2 S 0 0 c) b ∧ MMH m h2 S ∧ STY h h2
theorem XKr_old {A : Nat → Nat} {m b : Nat} {h h0 : Hp} {S : MM} {c : Int32} (g0 : Good h0) (F : OLD h h0) (H : CI A m h S b) : XKr A m h S b h0 c := by
  have H0 := CI_old g0 F H
  refine ⟨CI_0 (Nat.le_refl b) H0, ?_, g0, F.1, F.2.2.2.2.2⟩
  obtain ⟨D, n, R, Ee, is, ss, ra, pa, Dd, Pl, dP, T, N, O, hl, M, _⟩ := H0
  exact M
theorem canBe_i {p : Nat} (hp : p ≤ 14) (v : Int32) : (if pLe (pq p) ≤ v ∧ v ≤ pGr (pq p) then (1 : Int32) else 0) = m_canBe (nI p) v := by
  have := canBe_c hp v
  by_cases q : pLe (pq p) ≤ v ∧ v ≤ pGr (pq p)
  · rw [if_pos q, this.mpr q]
  · rw [if_neg q]
    rcases b_canBe (a0 := nI p) (a1 := v) with z | z
    · exact z.symm
    · exact absurd (this.mp z) q
theorem canBe_l {p : Nat} (hp : p ≤ 14) {v : Int32} (h : m_canBe (nI p) v = 1) : m_canBe (nI (dlo p)) v = 1 ∧ m_canBe (nI (dhi p)) v = 1 := by
  by_cases z : p = 14
  · subst z
    exact ⟨h, h⟩
  · rw [show dlo p = p from if_neg z, show dhi p = p from if_neg z]
    exact ⟨h, h⟩
theorem op_declare (l : Launch) (G : Gl) {A : Nat → Nat} {m b : Nat} {h : Hp} {S : MM} (H : CI A m h S b) (x y v : Int32) :
    (∃ (h2 : Hp) (S' : MM) (w : Int32), MRw l G yX11_declare (.code yX11_declare cX11_declare 5 (Option.some Jvm.ClassFile.FieldType.int)) 12 30 600 [.ref (A 0), .int x, .int y, .int v] h (.inl (some (.int w), h2)) ∧ m_declare S x y v = some (w, S') ∧ OKr A m h S b h2 S') ∨
    (MRw l G yX11_declare (.code yX11_declare cX11_declare 5 (Option.some Jvm.ClassFile.FieldType.int)) 12 30 600 [.ref (A 0), .int x, .int y, .int v] h (.inr (xI, h)) ∧ m_declare S x y v = some (0, u2 S 0 0 1)) ∨
    (MRw l G yX11_declare (.code yX11_declare cX11_declare 5 (Option.some Jvm.ClassFile.FieldType.int)) 12 30 600 [.ref (A 0), .int x, .int y, .int v] h (.inr (xA, h)) ∧ m_declare S x y v = some (0, u2 S 0 0 2)) ∨
    (∃ h2 : Hp, MRw l G yX11_declare (.code yX11_declare cX11_declare 5 (Option.some Jvm.ClassFile.FieldType.int)) 12 30 600 [.ref (A 0), .int x, .int y, .int v] h (.inr (xS, h2)) ∧ m_declare S x y v = some (0, u2 S 0 0 3) ∧ XKr A m h S b h2 3) := by
  have HH := H
  obtain ⟨D, n, R, Ee, is, ss, ra, pa, Dd, Pl, dP, T, N, O, hl, M, nu, z, len, ky⟩ := H
  have hkH := T.2.1.1.1
  rw [m_declare_s]
  rcases isRule_cs (x := x) N.1.2.1.1 with ⟨r, hr, ex, hi⟩ | ⟨hx, hi⟩
  · subst ex
    by_cases qy : y < 0 ∨ 14 < y
    · exact Or.inr (Or.inl ⟨c_declare_x2 l G hkH (ru_ok T hr) qy, m_declares_no1 (Or.inr (in_0 qy))⟩)
    · obtain ⟨p, hp, ep⟩ := pr_of (hi := 14) (by decide) qy
      have hp : p ≤ 14 := by omega
      subst ep
      by_cases qv : m_canBe (nI p) v = 1 ∨ v = -2 ∧ p < 3
      · have ea : (if m_canBe (nI p) v = 0 then if (2 : Int32) < nI p then (0 : Int32) else if v = -2 then 1 else 0 else 1) = 1 := by
          rcases b_canBe (a0 := nI p) (a1 := v) with w | w
          · rcases qv with q | q
            · rw [w] at q; exact absurd q (by decide)
            · rw [w, if_pos rfl, if_neg (show ¬ (2 : Int32) < nI p from nI_nlt (a := 2) (by omega) (by decide)), if_pos q.1]
          · rw [w, if_neg (by decide)]
        have qc : (if pLe (pq p) ≤ v ∧ v ≤ pGr (pq p) then (1 : Int32) else 0) ≠ 0 ∨ v = -2 ∧ p < 3 := by
          rw [canBe_i hp]
          rcases qv with q | q
          · exact Or.inl (by rw [q]; decide)
          · exact Or.inr q
        rw [ea]
        have g0 := nwD_g (x0 := 4) (x1 := v) (x2 := -1) T.1
        have F := nwD_O h 4 v (-1)
        obtain ⟨_, w2, _, _, w5, w6, w7⟩ := nwD_s h 4 v (-1)
        by_cases h6 : cntD S r p ≤ 6
        · have V : ∀ p', (p' = dlo p ∨ p' = dhi p) → VD p' 1 v (-1) := fun p' hp' => Or.inl ⟨rfl, by
            rcases qv with q | q
            · obtain ⟨c1, c2⟩ := canBe_l hp q
              rcases hp' with e | e <;> rw [e]
              · exact Or.inl c1
              · exact Or.inl c2
            · have e1 : dlo p = p := if_neg (by omega)
              have e2 : dhi p = p := if_neg (by omega)
              rcases hp' with e | e
              · rw [e, e1]; exact Or.inr ⟨q.2, q.1⟩
              · rw [e, e2]; exact Or.inr ⟨q.2, q.1⟩⟩
          obtain ⟨h2, j, S', Mp, k9, Ms, hj, k6, cc, e1, ok⟩ := dec_ok l G (b := b) (k := 1) (v := v) (f := -1) T N O M nu z len hr hp g0 F ⟨w2, Or.inl ⟨rfl, w5, w6⟩⟩ (V _ (Or.inl rfl)) (V _ (Or.inr rfl)) h6 hi
          exact Or.inl ⟨h2, S', hI h2 fU_declarationCount (ra r), c_declare_ok l G hkH (ru_ok T hr) hp qc Mp k9 Ms hj k6, by rw [cc]; exact e1, ok⟩
        · have h6 : 6 < cntD S r p := by omega
          have Mp := dec_no l G (d := hN h) T hr hp g0 F h6
          refine Or.inr (Or.inr (Or.inr ⟨_, c_declare_x4 l G hkH (ru_ok T hr) hp qc Mp, ?_, XKr_old g0 F HH⟩))
          rw [m_declares_no2 N.1.2.1.1 hr hi hp (Or.inr ⟨rfl, h6⟩), if_neg (by decide)]
      · have w : m_canBe (nI p) v = 0 := (b_canBe (a0 := nI p) (a1 := v)).resolve_right (fun y => qv (Or.inl y))
        have ea : (if m_canBe (nI p) v = 0 then if (2 : Int32) < nI p then (0 : Int32) else if v = -2 then 1 else 0 else 1) = 0 := by
          rw [w, if_pos rfl]
          by_cases p3 : p < 3
          · rw [if_neg (show ¬ (2 : Int32) < nI p from nI_nlt (a := 2) (by omega) (by decide)), if_neg (fun y => qv (Or.inr ⟨y, p3⟩))]
          · rw [if_pos (show (2 : Int32) < nI p from nI_lt (a := 2) (by omega) (by omega))]
        rw [ea]
        refine Or.inr (Or.inr (Or.inl ⟨c_declare_x3 l G hkH (ru_ok T hr) hp (by rw [canBe_i hp]; exact w) (fun y => qv (Or.inr y)), ?_⟩))
        rw [m_declares_no2 N.1.2.1.1 hr hi hp (Or.inl rfl), if_pos rfl]
  · exact Or.inr (Or.inl ⟨c_declare_x1 l G hkH (ru_no T hx), m_declares_no1 (Or.inl hi)⟩)
theorem op_say (l : Launch) (G : Gl) {A : Nat → Nat} {m b : Nat} {h : Hp} {S : MM} (H : CI A m h S b) (x y v : Int32) :
    (∃ (h2 : Hp) (S' : MM) (w : Int32), MRw l G yX11_say (.code yX11_say cX11_say 5 (Option.some Jvm.ClassFile.FieldType.int)) 12 30 600 [.ref (A 0), .int x, .int y, .int v] h (.inl (some (.int w), h2)) ∧ m_say S x y v = some (w, S') ∧ OKr A m h S b h2 S') ∨
    (MRw l G yX11_say (.code yX11_say cX11_say 5 (Option.some Jvm.ClassFile.FieldType.int)) 12 30 600 [.ref (A 0), .int x, .int y, .int v] h (.inr (xI, h)) ∧ m_say S x y v = some (0, u2 S 0 0 1)) ∨
    (MRw l G yX11_say (.code yX11_say cX11_say 5 (Option.some Jvm.ClassFile.FieldType.int)) 12 30 600 [.ref (A 0), .int x, .int y, .int v] h (.inr (xA, h)) ∧ m_say S x y v = some (0, u2 S 0 0 2)) ∨
    (∃ h2 : Hp, MRw l G yX11_say (.code yX11_say cX11_say 5 (Option.some Jvm.ClassFile.FieldType.int)) 12 30 600 [.ref (A 0), .int x, .int y, .int v] h (.inr (xS, h2)) ∧ m_say S x y v = some (0, u2 S 0 0 3) ∧ XKr A m h S b h2 3) := by
  have HH := H
  obtain ⟨D, n, R, Ee, is, ss, ra, pa, Dd, Pl, dP, T, N, O, hl, M, nu, z, len, ky⟩ := H
  have hkH := T.2.1.1.1
  rw [m_say_s]
  rcases isRule_cs (x := x) N.1.2.1.1 with ⟨r, hr, ex, hi⟩ | ⟨hx, hi⟩
  · subst ex
    by_cases qy : y < 0 ∨ 14 < y
    · exact Or.inr (Or.inl ⟨c_say_x2 l G hkH (ru_ok T hr) qy, m_declares_no1 (Or.inr (in_0 qy))⟩)
    · obtain ⟨p, hp, ep⟩ := pr_of (hi := 14) (by decide) qy
      have hp : p ≤ 14 := by omega
      subst ep
      by_cases qv : v < 0 ∨ 3 < v
      · rw [in_0 qv]
        refine Or.inr (Or.inr (Or.inl ⟨c_say_x3 l G hkH (ru_ok T hr) hp qv, ?_⟩))
        rw [m_declares_no2 N.1.2.1.1 hr hi hp (Or.inl rfl), if_pos rfl]
      · rw [in_1 qv]
        have g0 := nwD_g (x0 := v) (x1 := -1) (x2 := -1) T.1
        have F := nwD_O h v (-1) (-1)
        obtain ⟨_, w2, _, _, w5, w6, w7⟩ := nwD_s h v (-1) (-1)
        obtain ⟨u, hu, eu⟩ := pr_of (hi := 3) (by decide) qv
        by_cases h6 : cntD S r p ≤ 6
        · have V : ∀ p', VD p' 2 v (-1) := fun p' => Or.inr (Or.inl ⟨rfl, u, hu, eu⟩)
          obtain ⟨h2, j, S', Mp, k9, Ms, hj, k6, cc, e1, ok⟩ := dec_ok l G (b := b) (k := 2) (v := v) (f := -1) T N O M nu z len hr hp g0 F ⟨w2, Or.inr (Or.inl ⟨rfl, w5⟩)⟩ (V _) (V _) h6 hi
          exact Or.inl ⟨h2, S', hI h2 fU_declarationCount (ra r), c_say_ok l G hkH (ru_ok T hr) hp qv Mp k9 Ms hj k6, by rw [cc]; exact e1, ok⟩
        · have h6 : 6 < cntD S r p := by omega
          have Mp := dec_no l G (d := hN h) T hr hp g0 F h6
          refine Or.inr (Or.inr (Or.inr ⟨_, c_say_x4 l G hkH (ru_ok T hr) hp qv Mp, ?_, XKr_old g0 F HH⟩))
          rw [m_declares_no2 N.1.2.1.1 hr hi hp (Or.inr ⟨rfl, h6⟩), if_neg (by decide)]
  · exact Or.inr (Or.inl ⟨c_say_x1 l G hkH (ru_no T hx), m_declares_no1 (Or.inl hi)⟩)
theorem op_refer (l : Launch) (G : Gl) {A : Nat → Nat} {m b : Nat} {h : Hp} {S : MM} (H : CI A m h S b) (x y u f : Int32) :
    (∃ (h2 : Hp) (S' : MM) (w : Int32), MRw l G yX11_refer (.code yX11_refer cX11_refer 6 (Option.some Jvm.ClassFile.FieldType.int)) 12 30 600 [.ref (A 0), .int x, .int y, .int u, .int f] h (.inl (some (.int w), h2)) ∧ m_refer S x y u f = some (w, S') ∧ OKr A m h S b h2 S') ∨
    (MRw l G yX11_refer (.code yX11_refer cX11_refer 6 (Option.some Jvm.ClassFile.FieldType.int)) 12 30 600 [.ref (A 0), .int x, .int y, .int u, .int f] h (.inr (xI, h)) ∧ m_refer S x y u f = some (0, u2 S 0 0 1)) ∨
    (MRw l G yX11_refer (.code yX11_refer cX11_refer 6 (Option.some Jvm.ClassFile.FieldType.int)) 12 30 600 [.ref (A 0), .int x, .int y, .int u, .int f] h (.inr (xA, h)) ∧ m_refer S x y u f = some (0, u2 S 0 0 2)) ∨
    (∃ h2 : Hp, MRw l G yX11_refer (.code yX11_refer cX11_refer 6 (Option.some Jvm.ClassFile.FieldType.int)) 12 30 600 [.ref (A 0), .int x, .int y, .int u, .int f] h (.inr (xS, h2)) ∧ m_refer S x y u f = some (0, u2 S 0 0 3) ∧ XKr A m h S b h2 3) := by
  have HH := H
  obtain ⟨D, n, R, Ee, is, ss, ra, pa, Dd, Pl, dP, T, N, O, hl, M, nu, z, len, ky⟩ := H
  have hkH := T.2.1.1.1
  rw [m_refer_s]
  rcases isRule_cs (x := x) N.1.2.1.1 with ⟨r, hr, ex, hi⟩ | ⟨hx, hi⟩
  · subst ex
    by_cases qy : y < 0 ∨ 14 < y
    · exact Or.inr (Or.inl ⟨c_refer_x2 l G hkH (ru_ok T hr) qy, m_declares_no1 (Or.inr (in_0 qy))⟩)
    · obtain ⟨p, hp, ep⟩ := pr_of (hi := 14) (by decide) qy
      have hp : p ≤ 14 := by omega
      subst ep
      by_cases qu : u < 0 ∨ 3 < u
      · rw [in_0 qu, if_pos rfl]
        refine Or.inr (Or.inr (Or.inl ⟨c_refer_x3 l G hkH (ru_ok T hr) hp qu, ?_⟩))
        rw [m_declares_no2 N.1.2.1.1 hr hi hp (Or.inl rfl), if_pos rfl]
      · rw [in_1 qu, if_10]
        obtain ⟨u', hu, eu⟩ := pr_of (hi := 3) (by decide) qu
        by_cases qf : f = -1 ∨ m_canBe (nI p) f = 1
        · have ea : (if f = -1 then (1 : Int32) else if m_canBe (nI p) f = 0 then 0 else 1) = 1 := by
            by_cases w : f = -1
            · rw [if_pos w]
            · rw [if_neg w, qf.resolve_left w, if_neg (by decide)]
          have qc : f = -1 ∨ (if pLe (pq p) ≤ f ∧ f ≤ pGr (pq p) then (1 : Int32) else 0) ≠ 0 := by
            rw [canBe_i hp]
            rcases qf with q | q
            · exact Or.inl q
            · exact Or.inr (by rw [q]; decide)
          rw [ea]
          have g0 := nwD_g (x0 := 5) (x1 := f) (x2 := u) T.1
          have F := nwD_O h 5 f u
          obtain ⟨_, w2, _, _, w5, w6, w7⟩ := nwD_s h 5 f u
          by_cases h6 : cntD S r p ≤ 6
          · have V : ∀ p', (p' = dlo p ∨ p' = dhi p) → VD p' 3 u f := fun p' hp' => Or.inr (Or.inr ⟨rfl, u', hu, eu, by
              rcases qf with q | q
              · exact Or.inl q
              · obtain ⟨c1, c2⟩ := canBe_l hp q
                rcases hp' with e | e <;> rw [e]
                · exact Or.inr c1
                · exact Or.inr c2⟩)
            obtain ⟨h2, j, S', Mp, k9, Ms, hj, k6, cc, e1, ok⟩ := dec_ok l G (b := b) (k := 3) (v := u) (f := f) T N O M nu z len hr hp g0 F ⟨w2, Or.inr (Or.inr ⟨rfl, w5, w7, w6⟩)⟩ (V _ (Or.inl rfl)) (V _ (Or.inr rfl)) h6 hi
            exact Or.inl ⟨h2, S', hI h2 fU_declarationCount (ra r), c_refer_ok l G hkH (ru_ok T hr) hp qu qc Mp k9 Ms hj k6, by rw [cc]; exact e1, ok⟩
          · have h6 : 6 < cntD S r p := by omega
            have Mp := dec_no l G (d := hN h) T hr hp g0 F h6
            refine Or.inr (Or.inr (Or.inr ⟨_, c_refer_x4 l G hkH (ru_ok T hr) hp qu qc Mp, ?_, XKr_old g0 F HH⟩))
            rw [m_declares_no2 N.1.2.1.1 hr hi hp (Or.inr ⟨rfl, h6⟩), if_neg (by decide)]
        · have w : m_canBe (nI p) f = 0 := (b_canBe (a0 := nI p) (a1 := f)).resolve_right (fun y => qf (Or.inr y))
          rw [if_neg (fun y => qf (Or.inl y)), w, if_pos rfl]
          refine Or.inr (Or.inr (Or.inl ⟨c_refer_x5 l G hkH (ru_ok T hr) hp qu (fun y => qf (Or.inl y)) (by rw [canBe_i hp]; exact w), ?_⟩))
          rw [m_declares_no2 N.1.2.1.1 hr hi hp (Or.inl rfl), if_pos rfl]
  · exact Or.inr (Or.inl ⟨c_refer_x1 l G hkH (ru_no T hx), m_declares_no1 (Or.inl hi)⟩)
