/-! ===== the call remove: both sides ===== -/
def wbO (S : MM) (n p : Nat) (Ee : Nat → Nat) (x : Nat) : Bool := match fi n Ee x with
  | some e => blo S p e
  | none => false
def uaO (S : MM) (n : Nat) (Ee : Nat → Nat) (x : Nat) : List Nat := match fi n Ee x with
  | some e => (ach S 25 e).map Ee
  | none => []
theorem op_remove (l : Launch) (G : Gl) {A : Nat → Nat} {m bb : Nat} {h : Hp} {S : MM} (H : CI A m h S bb) (x : Int32) :
    (∃ (h2 : Hp) (S' : MM) (v : Int32), MRw l G yX11_remove (.code yX11_remove cX11_remove 4 (Option.some Jvm.ClassFile.FieldType.int)) 12 30 1700 [.ref (A 0), .int x] h (.inl (some (.int v), h2)) ∧ m_remove S x = some (v, S') ∧ OKr A m h S bb h2 S') ∨
    (MRw l G yX11_remove (.code yX11_remove cX11_remove 4 (Option.some Jvm.ClassFile.FieldType.int)) 12 30 1700 [.ref (A 0), .int x] h (.inr (xI, h)) ∧ m_remove S x = some (0, u2 S 0 0 1)) ∨
    (MRw l G yX11_remove (.code yX11_remove cX11_remove 4 (Option.some Jvm.ClassFile.FieldType.int)) 12 30 1700 [.ref (A 0), .int x] h (.inr (xS, h)) ∧ m_remove S x = some (0, u2 S 0 0 2)) := by
  obtain ⟨D, n, R, Ee, is, ss, ra, pa, Dd, Pl, dP, T, N, O, hl, M, nu, z, len, ky⟩ := H
  have hkH := T.2.1.1.1
  have hS := N.1.1
  cases hp : plc S n x with
  | none =>
    refine Or.inr (Or.inl ⟨c_remove_x1 l G hkH (el_no T hp), ?_⟩)
    rw [m_remove_no hS (Or.inl hp), hp, if_pos rfl]
  | some p =>
    have hpn := (plc_lt hp).1
    have nn : ¬ (some p : Option Nat) = none := fun y => by cases y
    have h24 := hS.2.2.1
    obtain ⟨hg, hX, ⟨l7, l8, l9, l10, l11, lp⟩, hE, ⟨hi, hT⟩, _⟩ := id T
    have mem : ∀ e, e < n → Ee e ∈ (List.range n).map Ee := fun e he => List.mem_map.mpr ⟨e, List.mem_range.mpr he, rfl⟩
    have k3 : ∀ e, e < n → hK h (Ee e) = 3 := fun e he => (hE.2.1 _ (List.mem_append_left _ (mem e he))).1
    obtain ⟨_, p1, p2, p3, p4, p5⟩ := hT p hpn
    by_cases hp0 : p = 0
    · refine Or.inr (Or.inr ⟨c_remove_x2 l G hkH (el_ok T hp) (k3 p hpn) (by rw [p1, hp0, par_0 hS]; rfl), ?_⟩)
      rw [m_remove_no hS (Or.inr (by rw [hp, hp0])), hp, if_neg nn]
    · have hp0 : 0 < p := Nat.pos_of_ne_zero hp0
      obtain ⟨⟨p78, _⟩, _⟩ := ls_pw lp
      obtain ⟨pp, _, _, hpp⟩ := par_s hS hp0 hpn
      obtain ⟨T9, R9, hM⟩ := m_remove_ok N.1 N.2.1 N.2.2.1 hp hp0
      obtain ⟨N2, nu2⟩ := TNR_rm hp0 R9 N nu
      have hlen : (kpl S n p).length = cn (stay S p) n := cn_flt n
      have hcn : cn (blo S p) n + cn (stay S p) n = n := cn_not n
      have wbe : ∀ e, e < n → wbO S n p Ee (Ee e) = blo S p e := fun e he => by
        unfold wbO
        rw [fi_at hi he]
      have uae : ∀ e, e < n → uaO S n Ee (Ee e) = (ach S 25 e).map Ee := fun e he => by
        unfold uaO
        rw [fi_at hi he]
      have eK : ((List.range n).map Ee).filter (fun x => !(wbO S n p Ee x)) = (kpl S n p).map Ee := by
        rw [List.filter_map]
        congr 1
        unfold kpl
        refine List.filter_congr (fun e he => ?_)
        show (!(wbO S n p Ee (Ee e))) = stay S p e
        rw [wbe e (List.mem_range.mp he)]
        rfl
      have eB : ((List.range n).map Ee).filter (wbO S n p Ee) = ((List.range n).filter (blo S p)).map Ee := by
        rw [List.filter_map]
        congr 1
        refine List.filter_congr (fun e he => ?_)
        show wbO S n p Ee (Ee e) = blo S p e
        exact wbe e (List.mem_range.mp he)
      have e6 : ∀ e, e < n → 6 ≤ Ee e := fun e he => (kind_in hg (k3 e he) (by decide)).1
      have lnk : ∀ {o : Option Nat} {a : Nat}, (∀ c, o = some c → c < n) → o.map Ee = some a → hK h a = 3 := fun {o a} ho ha => by
        cases o with
        | none => cases ha
        | some c =>
          cases ha
          exact k3 c (ho c rfl)
      obtain ⟨h2, d2, Mc, g2, L2, E1, _, AR2, AI2⟩ := c_cut l G (U := uaO S n Ee) (wi := wbO S n p Ee) (top := Ee p) hg hX.2.1.1 hX.2.1.2.1 hX.2.1.2.2 p78.1 l7 l8 p78.2 (by rw [List.length_map, List.length_range]; exact h24) (by rw [List.length_map, List.length_range]; omega)
        (fun y hy => by
          obtain ⟨e, he, rfl⟩ := List.mem_map.mp hy
          have he := List.mem_range.mp he
          refine ⟨k3 e he, ?_⟩
          rw [uae e he]
          have ea : ach S 25 e = e :: (ach S 25 e).tail := by
            show ach S (24 + 1) e = e :: (ach S (24 + 1) e).tail
            rw [ach]
            rfl
          rw [ea]
          refine ⟨rfl, k3 e he, e6 e he, ?_⟩
          rw [(hT e he).2.1]
          exact LN_up hS (fun f hf => ⟨k3 f hf, e6 f hf, (hT f hf).2.1⟩) e he 25 (by omega))
        (fun y hy => (hE.2.1 _ (List.mem_append_right _ hy)).1)
        (fun y hy => by
          obtain ⟨e, he, rfl⟩ := List.mem_map.mp hy
          have he := List.mem_range.mp he
          rw [wbe e he, uae e he]
          unfold blo
          rw [decide_eq_true_iff]
          constructor
          · intro w
            exact List.mem_map.mpr ⟨p, w, rfl⟩
          · intro w
            obtain ⟨q, q1, q2⟩ := List.mem_map.mp w
            rw [← hi q (ach_lt hS 25 e he q q1) p hpn q2]
            exact q1)
        (k3 p hpn) (fun a ha => by
          rw [p2] at ha
          refine ⟨lnk (fun c hc => Nat.lt_trans (ahS_lt hc) hpn) ha, fun w => ?_⟩
          rw [w] at ha
          have := ahS_lt ((om_i hi (fun c hc => Nat.lt_trans (ahS_lt hc) hpn) hpn).mp ha)
          omega) (fun a ha => by
          rw [p3] at ha
          exact lnk (fun c hc => nx_lt hc) ha) (fun a ha => by
          rw [p1] at ha
          exact lnk (fun c hc => ((par_S hS hpn).2 c hc).2) ha)
      obtain ⟨s1, s2, s3, s4, s5, s6, s7⟩ := ulk_s h (Ee p)
      obtain ⟨f0, f1, f2, f3, f4, f5, f6, f7⟩ := L2
      have Ku : KP h (ulk h (Ee p)) := ⟨by rw [s1]; exact Nat.le_refl _, fun a _ => ⟨by rw [s2], by rw [s3]⟩⟩
      have K02 : KP h h2 := KP_t Ku f0
      have bI : ∀ f, f ≠ fA_modCount → f ≠ fA_size → hI h2 f = hI h f := fun f b1 b2 => by rw [f1 f b1 b2, s4]
      have bR : ∀ f, f ≠ fA_elementData → (f < 197 ∨ 201 < f) → hR h2 f = hR h f := fun f b1 b2 => by
        rw [f3 f b1, ulk_R (fun y => by rw [y] at b2; exact absurd b2 (by decide)) (fun y => by rw [y] at b2; exact absurd b2 (by decide)) (fun y => by rw [y] at b2; exact absurd b2 (by decide)) (fun y => by rw [y] at b2; exact absurd b2 (by decide))]
      have hA2 : hA h2 = hA h := f5.trans s5
      have hW2 : hW h2 = hW h := f6.trans s7
      have eG : (List.range (kpl S n p).length).map (Ekp S n p Ee) = (kpl S n p).map Ee := map_gd (f := Ee) (kpl S n p)
      have A7 : AL h2 (A 7) (D 7) ((List.range (kpl S n p).length).map (Ekp S n p Ee)) := by
        rw [eG, ← eK]
        exact AR2
      have T2 := TEL_rm hS hpn hp0 ⟨hi, hT⟩ R9 bI f3
      have E2 : ELS A m h2 ((List.range (kpl S n p).length).map (Ekp S n p Ee) ++ (is ++ (((List.range n).map Ee).filter (wbO S n p Ee)).reverse)) := by
        rw [eG, eB]
        have q1 : List.Perm ((List.range n).map Ee) ((kpl S n p).map Ee ++ ((List.range n).filter (blo S p)).map Ee) := by
          have := (pm_f (P := blo S p) (List.range n)).map Ee
          rw [List.map_append] at this
          exact this
        exact ELS_p ((q1.append_right is).trans (pm_6 (List.reverse_perm _).symm)) (ELS_f hg K02 (bR _ (by decide) (by decide)) (bR _ (by decide) (by decide)) (bR _ (by decide) (by decide)) (bR _ (by decide) (by decide)) hE)
      have nA : ∀ {y : Nat}, y ≠ A 7 → y ≠ A 8 → ¬ (y = A 7 ∨ y = A 8) := fun a b w => w.elim a b
      have TL2 := TLD_tr (N1 := hN h2) T g2 K02 (fun f b1 b2 _ _ => bI f b1 b2) (fun y y7 y8 => by rw [f2 _ y (nA y7 y8), s4]) (fun f b1 b2 => bR f b1 (by omega)) (fun y y7 y8 => by rw [f4 _ y (nA y7 y8), ulk_R (by decide) (by decide) (by decide) (by decide)]) (fun y b1 b2 b3 => by
        rw [f7 y (by rw [s1]; exact b1) (fun w => w.elim b2 b3), s6]) A7 AI2 E1 ⟨K02.1, AL_dn g2 AI2⟩ (Or.inl rfl) E2 T2 (fun k k1 k2 => R9.1 k (by omega) k2 (by omega) (by omega)) (congrFun (R9.1 1 (by decide) (by decide) (by decide) (by decide)) 0) (by rw [bI _ (by decide) (by decide), R9.1 2 (by decide) (by decide) (by decide) (by decide)]; exact T.2.2.2.2.2.2.2.1)
      have O1 := KO_f (h1 := h2) (fun g b1 b2 => bI g (fun y => by rw [y] at b1; exact absurd b1 (by decide)) (fun y => by rw [y] at b1; exact absurd b1 (by decide))) (bR _ (by decide) (by decide)) (bR _ (by decide) (by decide)) (bR _ (by decide) (by decide)) hA2 O
      have O2 : KO h2 S (kpl S n p).length (fun i => (kpl S n p)[i]?) (Ekp S n p Ee) := fun i hi2 => by
        have h1 := List.getElem?_eq_getElem hi2
        obtain ⟨y1, y2, y3⟩ := cn_at (P := stay S p) (n := n) (i := i) h1
        obtain ⟨e, ee⟩ : ∃ e, e = (kpl S n p)[i] := ⟨_, rfl⟩
        have ee2 : (kpl S n p)[i]? = some e := by rw [h1, ee]
        have y1 : e < n := ee ▸ y1
        have y2 : stay S p e = true := ee ▸ y2
        have y3 : cn (stay S p) e = i := ee ▸ y3
        have gg : LKo h2 (kpt h2 (Ekp S n p Ee i)) S e := by
          rw [← y3, Ekp_s y1 y2]
          exact O1 e y1
        simp only [ee2]
        exact gg
      have M2 : MMH m h2 S := MMH_f hg ⟨K02, fun g y hg => by rw [bI g (fun y => by rw [y] at hg; exact absurd hg (by decide)) (fun y => by rw [y] at hg; exact absurd hg (by decide))], fun g hg => bR g (fun y => by rw [y] at hg; exact absurd hg (by decide)) (by omega), fun y _ _ => by rw [hA2], hW2⟩ M
      obtain ⟨h3, j, S', r1, r2, r3, r4, r5, r6, r7, r8, r9⟩ := op_end l G (wt := cn (blo S p) n) (b := bb) TL2 N2 O2 M2 nu2 (fun i hi => by rw [R9.1 20 (by decide) (by decide) (by decide) (by decide)]; exact z i hi) (by
        rw [List.length_append, List.length_reverse, eB, List.length_map, cn_flt, hlen]
        omega) (fun Y hY hV => hM Y N2.1 hY hV)
      rw [eB, List.length_map, cn_flt] at Mc
      exact Or.inl ⟨h3, S', nI (cn (blo S p) n), c_remove_ok l G hkH (el_ok T hp) (k3 p hpn) (pp := Ee pp) (by rw [p1, hpp]; rfl) hX.1.2.1 hX.2.1.1 Mc (KP_k hg K02 hkH (by decide)) r1 r7, r2, r3, r4, r5, r6.1, KP_t K02 r6.2.1, r6.2.2.trans hW2⟩
