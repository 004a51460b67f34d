/-! ===== Cascade over the table of the looks: findOne, findVariables ===== -/
theorem cm_An {w : WZ} {h : Hp} {Z : MM} {a j : Nat} (h1 : ∀ e, e < wn w → wv w e ≠ a ∧ ws w e ≠ a) : hA (cm w h Z) a j = hA h a j := by
  show (if j < 14 then (match fi (wn w) (wv w) a with | some e => Z e j | none => match fi (wn w) (ws w) a with | some e => Z e (14 + j) | none => hA h a j) else hA h a j) = _
  by_cases q : j < 14
  · rw [if_pos q, fi_no (fun e he => (h1 e he).1), fi_no (fun e he => (h1 e he).2)]
  · rw [if_neg q]
theorem cm_sAn {w : WZ} {h : Hp} {Z : MM} {a j : Nat} {v : Int32} (h1 : ∀ e, e < wn w → wv w e ≠ a ∧ ws w e ≠ a) : sA (cm w h Z) a j v = cm w (sA h a j v) Z := by
  have eA : va_up (hA (cm w h Z)) a (va_up (hA (cm w h Z) a) j v) = hA (cm w (sA h a j v) Z) := by
    funext b i
    by_cases q : b = a
    · subst q
      rw [va_up_self, cm_An h1]
      show _ = va_up (hA h) b (va_up (hA h b) j v) b i
      rw [va_up_self]
      by_cases z : i = j
      · rw [z, va_up_self, va_up_self]
      · rw [va_up_ne _ _ z, va_up_ne _ _ z, cm_An h1]
    · rw [va_up_ne _ _ q]
      have e1 : hA (sA h a j v) b = hA h b := va_up_ne _ _ q
      show (if i < 14 then (match fi (wn w) (wv w) b with | some e => Z e i | none => match fi (wn w) (ws w) b with | some e => Z e (14 + i) | none => hA h b i) else hA h b i) = (if i < 14 then (match fi (wn w) (wv w) b with | some e => Z e i | none => match fi (wn w) (ws w) b with | some e => Z e (14 + i) | none => hA (sA h a j v) b i) else hA (sA h a j v) b i)
      rw [e1]
  show (hN h, hK h, hL h, hI (cm w h Z), hR h, va_up (hA (cm w h Z)) a (va_up (hA (cm w h Z) a) j v), hQ h, hW h) = _
  rw [eA]
  rfl
/-- the deciding declaration of a property: kind, number, variable, and the number of its rule -/
def tlZ (h : Hp) (K : Nat) (Ds : Nat → Nat) (p : Nat) : Option (Int32 × Int32 × Int32 × Int32) := match hQ h K p with
  | none => none
  | some r => match hQ h (Ds r) p with
    | none => none
    | some d => some (hI h fD_kind d, hI h fD_number d, hI h fD_variable d, hI h fU_number r)
def ihZ (w : WZ) (Z : MM) (e p : Nat) (b : Int32) : Int32 × Int32 := if b = 0 then (pAf p, -1) else match wl w 197 e with
  | none => (pAf p, -1)
  | some q => (Z q p, Z q (14 + p))
def foZ (w : WZ) (Z : MM) (e p : Nat) (t : Option (Int32 × Int32 × Int32 × Int32)) : Int32 × Int32 := match t with
  | none => ihZ w Z e p (if nI p < 8 then 0 else 1)
  | some (k, n, v, u) => if k = 4 then (n, u)
    else if k = 5 then (if nbv p (Z e (10 + v.toNatClampNeg)) n = -1 then ihZ w Z e p (ihB p k) else (nbv p (Z e (10 + v.toNatClampNeg)) n, u))
    else ihZ w Z e p (ihB p k)
def pz (Z : MM) (e p : Nat) (v : Int32 × Int32) : MM := u2 (u2 Z e p v.1) e (14 + p) v.2
theorem zw_fr {w : WZ} {h : Hp} {Z : MM} (hZ : ZW w h) {e : Nat} (he : e < wn w) : frs (cm w h Z) (wE w e) = wf w e ∧ vls (cm w h Z) (wf w e) = wv w e ∧ scs (cm w h Z) (wf w e) = ws w e := by
  obtain ⟨-, h2, -, h4, h5, -⟩ := hZ.1 e he
  refine ⟨?_, ?_, ?_⟩
  · show (hR h 203 (wE w e)).getD 0 = _
    rw [h2]
    rfl
  · show (hR h fL_values (wf w e)).getD 0 = _
    rw [h4]
    rfl
  · show (hR h fL_sources (wf w e)).getD 0 = _
    rw [h5]
    rfl
theorem ptF_cm {w : WZ} {h : Hp} {Z : MM} (hZ : ZW w h) {e p : Nat} (he : e < wn w) (hp : p < 14) (v : Int32 × Int32) : ptF (cm w h Z) (wE w e) p v = cm w h (pz Z e p v) := by
  obtain ⟨h1, h2, h3⟩ := zw_fr (Z := Z) hZ he
  unfold ptF pz
  rw [h1, h2, h3, cm_sA hZ he hp (Or.inl ⟨rfl, rfl⟩), cm_sA hZ he hp (Or.inr ⟨rfl, rfl⟩)]
theorem ihV_cm {w : WZ} {h : Hp} {Z : MM} (hZ : ZW w h) {e p : Nat} (he : e < wn w) (hp : p < 14) (b : Int32) : ihV (cm w h Z) (wE w e) p b = ihZ w Z e p b := by
  obtain ⟨h1, h2⟩ := hZ.2.2.2.2.2.1 197 e he (by decide) (by decide)
  unfold ihV ihZ
  rw [show hR (cm w h Z) fE_parent (wE w e) = (wl w 197 e).map (wE w) from h1]
  cases hq : wl w 197 e with
  | none => rfl
  | some q =>
    have hq2 := h2 q hq
    obtain ⟨g1, g2, g3⟩ := zw_fr (Z := Z) hZ hq2
    show (if b = 0 then (pAf p, -1) else (lv (cm w h Z) (frs (cm w h Z) (wE w q)) p, ls (cm w h Z) (frs (cm w h Z) (wE w q)) p)) = (if b = 0 then (pAf p, -1) else (Z q p, Z q (14 + p)))
    unfold lv ls
    rw [g1, g2, g3, cm_v hZ hq2 hp, cm_s hZ hq2 hp]
theorem foV_cm {w : WZ} {h : Hp} {Z : MM} (hZ : ZW w h) {e p K : Nat} {Ds : Nat → Nat} (he : e < wn w) (hp : p < 14)
    (hV : ∀ r d, hQ h K p = some r → hQ h (Ds r) p = some d → hI h fD_kind d = 5 → ∃ v, v < 4 ∧ hI h fD_variable d = nI v) : foV (cm w h Z) (wE w e) K Ds p = foZ w Z e p (tlZ h K Ds p) := by
  obtain ⟨h1, h2, h3⟩ := zw_fr (Z := Z) hZ he
  have hq : hQ (cm w h Z) = hQ h := rfl
  unfold foV tlZ
  rw [hq]
  cases hr : hQ h K p with
  | none => exact ihV_cm hZ he hp _
  | some r =>
    show (match hQ h (Ds r) p with | none => _ | some d => _) = foZ w Z e p (match hQ h (Ds r) p with | none => none | some d => _)
    cases hd : hQ h (Ds r) p with
    | none => exact ihV_cm hZ he hp _
    | some d =>
      have e1 : hI (cm w h Z) fD_kind d = hI h fD_kind d := cm_In (Or.inl (by decide))
      have e2 : hI (cm w h Z) fD_number d = hI h fD_number d := cm_In (Or.inl (by decide))
      have e3 : hI (cm w h Z) fD_variable d = hI h fD_variable d := cm_In (Or.inl (by decide))
      have e4 : hI (cm w h Z) fU_number r = hI h fU_number r := cm_In (Or.inr (by decide))
      show (if hI (cm w h Z) fD_kind d = 4 then _ else _) = (if hI h fD_kind d = 4 then _ else _)
      rw [e1, e2, e3, e4]
      by_cases k4 : hI h fD_kind d = 4
      · rw [if_pos k4, if_pos k4]
      · rw [if_neg k4, if_neg k4]
        by_cases k5 : hI h fD_kind d = 5
        · rw [if_pos k5, if_pos k5]
          obtain ⟨v, v1, v2⟩ := hV r d hr hd k5
          have ec : hA (cm w h Z) (vls (cm w h Z) (frs (cm w h Z) (wE w e))) (10 + (hI h fD_variable d).toNatClampNeg) = Z e (10 + (hI h fD_variable d).toNatClampNeg) := by
            rw [h1, h2, v2, nI_clamp (by omega), cm_v hZ he (by omega)]
          rw [ec, ihV_cm hZ he hp]
        · rw [if_neg k5, if_neg k5, ihV_cm hZ he hp]
/-- the cascade's own rows, away from the looks -/
def CW (w : WZ) (h : Hp) (c K P N : Nat) : Prop :=
  hK h c = 1 ∧ hR h fC_deciding c = some K ∧ hK h K = 104 ∧ hL h K = 14 ∧ hR h fC_passed c = some P ∧ hK h P = 100 ∧ hL h P = 14 ∧ hR h fC_needed c = some N ∧ hK h N = 100 ∧ hL h N = 4 ∧ P ≠ N ∧
  (∀ e, e < wn w → EW h (wE w e)) ∧ (∀ e, e < wn w → wv w e ≠ P ∧ ws w e ≠ P) ∧ (∀ e, e < wn w → wv w e ≠ N ∧ ws w e ≠ N)
/-- what variables the declarations name -/
def VW (h : Hp) (K : Nat) (Ds : Nat → Nat) : Prop := ∀ p r d, p < 14 → hQ h K p = some r → hQ h (Ds r) p = some d → hI h fD_kind d = 5 → ∃ v, v < 4 ∧ hI h fD_variable d = nI v
theorem c_findOneZ (l : Launch) (G : Gl) {w : WZ} {h : Hp} {Z : MM} {c K P N e p : Nat} {Ds : Nat → Nat} (hZ : ZW w h) (hC : CW w h c K P N) (hD : DW h K Ds) (hV : VW h K Ds) (he : e < wn w) (hp : p < 14) :
    MRw l G yX0_findOne (.code yX0_findOne cX0_findOne 7 none) 2 0 0 [.ref c, .ref (wE w e), .int (nI p)] (cm w h Z) (.inl (none, cm w h (pz Z e p (foZ w Z e p (tlZ h K Ds p))))) := by
  obtain ⟨c1, c2, c3, c4, -, -, -, -, -, -, -, cE, -, -⟩ := hC
  have M := c_findOne l G (h := cm w h Z) (K := K) (Ds := Ds) (e := wE w e) c1 c2 c3 c4 hD (cE e he) (fun q hq => by
    have hq' : (wl w 197 e).map (wE w) = some q := ((hZ.2.2.2.2.2.1 197 e he (by decide) (by decide)).1).symm.trans hq
    obtain ⟨b, hb1, hb2⟩ := Option.map_eq_some_iff.mp hq'
    rw [← hb2]
    exact cE b ((hZ.2.2.2.2.2.1 197 e he (by decide) (by decide)).2 b hb1)) hp (fun r d hr hd hk => by
      have e1 : hI (cm w h Z) fD_kind d = hI h fD_kind d := cm_In (Or.inl (by decide))
      have e3 : hI (cm w h Z) fD_variable d = hI h fD_variable d := cm_In (Or.inl (by decide))
      rw [e1] at hk
      rw [e3]
      exact hV p r d hp hr hd hk)
  rw [foV_cm hZ he hp (fun r d => hV p r d hp), ptF_cm hZ he hp] at M
  exact M
/-- which variable a variable needs -/
def ndZ (t : Nat → Option (Int32 × Int32 × Int32 × Int32)) (v : Nat) : Option Nat := match t (10 + v) with
  | none => none
  | some (k, _, x, _) => if k = 5 then some x.toNatClampNeg else none
theorem wrN_cm {w : WZ} {h : Hp} {Z : MM} {K N : Nat} {Ds : Nat → Nat} (h1 : ∀ e, e < wn w → wv w e ≠ N ∧ ws w e ≠ N) : ∀ n, wrN (cm w h Z) K N Ds n = cm w (wrN h K N Ds n) Z
  | 0 => rfl
  | n + 1 => by
    have ih := wrN_cm (w := w) (h := h) (Z := Z) (K := K) (N := N) (Ds := Ds) h1 n
    have en : ned (cm w h Z) (dcl (cm w h Z) K Ds (10 + n)) = ned h (dcl h K Ds (10 + n)) := by
      have ed : dcl (cm w h Z) K Ds (10 + n) = dcl h K Ds (10 + n) := rfl
      rw [ed]
      cases dcl h K Ds (10 + n) with
      | none => rfl
      | some d =>
        show (if hI (cm w h Z) fD_kind d = 5 then hI (cm w h Z) fD_variable d else -1) = (if hI h fD_kind d = 5 then hI h fD_variable d else -1)
        rw [show hI (cm w h Z) fD_kind d = hI h fD_kind d from cm_In (Or.inl (by decide)), show hI (cm w h Z) fD_variable d = hI h fD_variable d from cm_In (Or.inl (by decide))]
    show sA (wrN (cm w h Z) K N Ds n) N n (ned (cm w h Z) (dcl (cm w h Z) K Ds (10 + n))) = cm w (sA (wrN h K N Ds n) N n (ned h (dcl h K Ds (10 + n)))) Z
    rw [ih, en, cm_sAn h1]
theorem wrN_at {h : Hp} {K N : Nat} {Ds : Nat → Nat} : ∀ n a, a < n → hA (wrN h K N Ds n) N a = ned h (dcl h K Ds (10 + a))
  | 0, a, ha => by omega
  | n + 1, a, ha => by
    show va_up (hA (wrN h K N Ds n)) N (va_up (hA (wrN h K N Ds n) N) n (ned h (dcl h K Ds (10 + n)))) N a = _
    rw [va_up_self]
    by_cases q : a = n
    · rw [q, va_up_self]
    · rw [va_up_ne _ _ q]
      exact wrN_at n a (by omega)
theorem wrN_o {h : Hp} {K N : Nat} {Ds : Nat → Nat} {b : Nat} (q : b ≠ N) : ∀ n, hA (wrN h K N Ds n) b = hA h b
  | 0 => rfl
  | n + 1 => by
    show va_up (hA (wrN h K N Ds n)) N _ b = _
    rw [va_up_ne _ _ q]
    exact wrN_o q n
theorem ned_nd {h : Hp} {K : Nat} {Ds : Nat → Nat} (hV : VW h K Ds) {a : Nat} (ha : a < 4) : ned h (dcl h K Ds (10 + a)) = eo (ndZ (tlZ h K Ds) a) ∧ ∀ v, ndZ (tlZ h K Ds) a = some v → v < 4 := by
  unfold ndZ tlZ dcl
  cases hr : hQ h K (10 + a) with
  | none => exact ⟨rfl, fun v q => nomatch q⟩
  | some r =>
    cases hd : hQ h (Ds r) (10 + a) with
    | none =>
      simp only [hd]
      exact ⟨rfl, fun v q => nomatch q⟩
    | some d =>
      simp only [hd]
      show (if hI h fD_kind d = 5 then hI h fD_variable d else -1) = _ ∧ _
      by_cases k5 : hI h fD_kind d = 5
      · obtain ⟨v, v1, v2⟩ := hV (10 + a) r d (by omega) hr hd k5
        rw [if_pos k5, if_pos k5, v2, nI_clamp (by omega)]
        exact ⟨rfl, fun u q => by cases q; exact v1⟩
      · rw [if_neg k5, if_neg k5]
        exact ⟨rfl, fun v q => nomatch q⟩
/-- one step of a round over the variables -/
def vSt (w : WZ) (e : Nat) (t : Nat → Option (Int32 × Int32 × Int32 × Int32)) (Z : MM) (v : Nat) : MM := if rgA (ndZ t) v 4 v = true then pz Z e (10 + v) (-1, -1) else pz Z e (10 + v) (foZ w Z e (10 + v) (t (10 + v)))
def vRd (w : WZ) (e : Nat) (t : Nat → Option (Int32 × Int32 × Int32 × Int32)) (Z : MM) : MM := (List.range 4).foldl (vSt w e t) Z
theorem rdF (f : MM → Nat → MM) (Z : MM) (n : Nat) : (List.range (n + 1)).foldl f Z = f ((List.range n).foldl f Z) n := by
  rw [List.range_succ, List.foldl_append]
  rfl
/-- what findNeeds leaves: the base with the needs -/
theorem wrN_w {w : WZ} {h : Hp} {c K P N : Nat} {Ds : Nat → Nat} (hC : CW w h c K P N) : CW w (wrN h K N Ds 4) c K P N := by
  obtain ⟨a1, a2, a3, a4, a5, a6, a7⟩ := wrN_s h K N Ds 4
  obtain ⟨c1, c2, c3, c4, c5, c6, c7, c8, c9, c10, c11, cE, cP, cN⟩ := hC
  refine ⟨by rw [a2]; exact c1, by rw [a5]; exact c2, by rw [a2]; exact c3, by rw [a3]; exact c4, by rw [a5]; exact c5, by rw [a2]; exact c6, by rw [a3]; exact c7, by rw [a5]; exact c8, by rw [a2]; exact c9, by rw [a3]; exact c10, c11, fun e he => ?_, cP, cN⟩
  have := cE e he
  unfold EW LW LO frs kpt vls scs at *
  rw [a2, a3, a5]
  exact this
theorem ZW_eq {w : WZ} {h h' : Hp} (hZ : ZW w h) (e1 : hK h' = hK h) (e2 : hL h' = hL h) (e3 : hR h' = hR h) (e4 : hI h' = hI h) : ZW w h' := by
  unfold ZW LO at *
  rw [e1, e2, e3, e4]
  exact hZ
theorem fv_D {h : Hp} {K N : Nat} {Ds : Nat → Nat} (hD : DW h K Ds) : DW (wrN h K N Ds 4) K Ds := by
  obtain ⟨a1, a2, a3, a4, a5, a6, a7⟩ := wrN_s h K N Ds 4
  generalize wrN h K N Ds 4 = h1 at *
  intro p r hp hr
  rw [a6] at hr
  obtain ⟨q1, q2⟩ := hD p r hp hr
  refine ⟨⟨by rw [a2]; exact q1.1, by rw [a5]; exact q1.2.1, by rw [a2]; exact q1.2.2.1, by rw [a3]; exact q1.2.2.2⟩, fun q d hq hd => ?_⟩
  rw [a6] at hd
  rw [a2]
  exact q2 q d hq hd
theorem fv_V {h : Hp} {K N : Nat} {Ds : Nat → Nat} (hV : VW h K Ds) : VW (wrN h K N Ds 4) K Ds := by
  obtain ⟨a1, a2, a3, a4, a5, a6, a7⟩ := wrN_s h K N Ds 4
  generalize wrN h K N Ds 4 = h1 at *
  intro p r d hp hr hd hk
  rw [a6] at hr hd
  rw [a4] at hk ⊢
  exact hV p r d hp hr hd hk
theorem fv_t {h : Hp} {K N : Nat} {Ds : Nat → Nat} : tlZ (wrN h K N Ds 4) K Ds = tlZ h K Ds := by
  obtain ⟨a1, a2, a3, a4, a5, a6, a7⟩ := wrN_s h K N Ds 4
  generalize wrN h K N Ds 4 = h1 at *
  funext p
  unfold tlZ
  rw [a6, a4]
theorem fv_Z {w : WZ} {h : Hp} {K N : Nat} {Ds : Nat → Nat} (hZ : ZW w h) : ZW w (wrN h K N Ds 4) := by
  obtain ⟨a1, a2, a3, a4, a5, a6, a7⟩ := wrN_s h K N Ds 4
  exact ZW_eq hZ a2 a3 a5 a4
theorem fv_R (l : Launch) (G : Gl) {w : WZ} {h h1 : Hp} {c K P N : Nat} {Ds : Nat → Nat} (hC1 : CW w h1 c K P N) (hV : VW h K Ds) (hn : ∀ a, a < 4 → hA h1 N a = eo (ndZ (tlZ h K Ds) a)) (Y : MM) (v : Nat) (hv : v < 4) :
    MRw l G yX0_isInRing (.code yX0_isInRing cX0_isInRing 4 (Option.some Jvm.ClassFile.FieldType.boolean)) 0 0 0 [.ref c, .int (nI v)] (cm w h1 Y) (.inl (some (.int (if rgA (ndZ (tlZ h K Ds)) v 4 v = true then 1 else 0)), cm w h1 Y)) := by
  obtain ⟨c1, c2, c3, c4, c5, c6, c7, c8, c9, c10, c11, cE, cP, cN⟩ := hC1
  have hf : ∀ a, a < 4 → hA (cm w h1 Y) N a = eo (ndZ (tlZ h K Ds) a) := fun a ha => (cm_An cN).trans (hn a ha)
  have hw : ∀ a u, a < 4 → ndZ (tlZ h K Ds) a = some u → u < 4 := fun a u ha hu => (ned_nd hV ha).2 u hu
  generalize ndZ (tlZ h K Ds) = f at *
  exact c_isInRing l G (h := cm w h1 Y) (f := f) c1 c8 c9 c10 hv hf hw
theorem fv_P (l : Launch) (G : Gl) {w : WZ} {h1 : Hp} {e : Nat} (hZ1 : ZW w h1) (he : e < wn w) (Y : MM) (v : Nat) (hv : v < 4) : MRw l G yX4_put (.code yX4_put cX4_put 4 none) 0 0 0 [.ref (wf w e), .int (nI (10 + v)), .int (-1), .int (-1)] (cm w h1 Y) (.inl (none, cm w h1 (pz Y e (10 + v) (-1, -1)))) := by
  have := c_put l G (h := cm w h1 Y) (p := 10 + v) (x := -1) (z := -1) (hZ1.1 e he).2.2 (by omega)
  rw [cm_sA hZ1 he (by omega) (Or.inl ⟨rfl, rfl⟩), cm_sA hZ1 he (by omega) (Or.inr ⟨rfl, rfl⟩)] at this
  exact this
theorem fv_M (l : Launch) (G : Gl) {w : WZ} {h : Hp} {Z : MM} {c K P N : Nat} {Ds : Nat → Nat} (hC : CW w h c K P N) (hD : DW h K Ds) :
    MRw l G yX0_findNeeds (.code yX0_findNeeds cX0_findNeeds 6 none) 1 0 0 [.ref c] (cm w h Z) (.inl (none, cm w (wrN h K N Ds 4) Z)) := by
  obtain ⟨c1, c2, c3, c4, c5, c6, c7, c8, c9, c10, c11, cE, cP, cN⟩ := hC
  have M1 := c_findNeeds l G (h := cm w h Z) (Ds := Ds) c1 c2 c3 c4 c8 c9 c10 hD
  rw [wrN_cm cN] at M1
  exact M1
theorem fv_walk (l : Launch) (G : Gl) {w : WZ} {h h1 : Hp} {Z : MM} {c e : Nat} {t : Nat → Option (Int32 × Int32 × Int32 × Int32)}
    (M1 : MRw l G yX0_findNeeds (.code yX0_findNeeds cX0_findNeeds 6 none) 1 0 0 [.ref c] (cm w h Z) (.inl (none, cm w h1 Z)))
    (MR : ∀ (Y : MM) (v : Nat), v < 4 → MRw l G yX0_isInRing (.code yX0_isInRing cX0_isInRing 4 (Option.some Jvm.ClassFile.FieldType.boolean)) 0 0 0 [.ref c, .int (nI v)] (cm w h1 Y) (.inl (some (.int (if rgA (ndZ t) v 4 v = true then 1 else 0)), cm w h1 Y)))
    (MP : ∀ (Y : MM) (v : Nat), v < 4 → MRw l G yX4_put (.code yX4_put cX4_put 4 none) 0 0 0 [.ref (wf w e), .int (nI (10 + v)), .int (-1), .int (-1)] (cm w h1 Y) (.inl (none, cm w h1 (pz Y e (10 + v) (-1, -1)))))
    (MF : ∀ (Y : MM) (v : Nat), v < 4 → MRw l G yX0_findOne (.code yX0_findOne cX0_findOne 7 none) 2 0 0 [.ref c, .ref (wE w e), .int (nI (10 + v))] (cm w h1 Y) (.inl (none, cm w h1 (pz Y e (10 + v) (foZ w Y e (10 + v) (t (10 + v)))))))
    (hfr : hR h1 fE_fresh (wE w e) = some (wf w e)) (hkc : ∀ Y, hK (cm w h1 Y) c = 1) (hke : ∀ Y, hK (cm w h1 Y) (wE w e) = 3) (hkf : ∀ Y, hK (cm w h1 Y) (wf w e) = 4) (hkh : hK (cm w h Z) c = 1) :
    MRw l G yX0_findVariables (.code yX0_findVariables cX0_findVariables 4 none) 3 0 0 [.ref c, .ref (wE w e)] (cm w h Z) (.inl (none, cm w h1 ((List.range 4).foldl (fun Z _ => vRd w e t Z) Z))) := by
  refine mr_of (by decide +kernel) (Nat.le_of_ble_eq_true rfl) (ct2 (by first | rfl | exact isR_cat (isR_rf _)) (by first | rfl | exact isR_cat (isR_rf _))) (fun X hG hl C E => ?_)
  subst hG hl
  -- a round
  have hin : ∀ (i : Nat) (Y0 : MM), (∀ v3, wr X 0 0 57 [.ref c, .ref (wE w e), .int (nI i), v3] [] (cm w h1 (vRd w e t Y0))) → ∀ (m v : Nat), v + m = 4 → wr X 0 0 13 [.ref c, .ref (wE w e), .int (nI i), .int (nI v)] [] (cm w h1 ((List.range v).foldl (vSt w e t) Y0)) := by
    intro i Y0 hK0 m
    induction m with
    | zero =>
      intro v hv
      have : v = 4 := by omega
      subst this
      refine r_iload_n (i := 3) C dX0_findVariables_13 rfl rfl ?_
      refine r_iconst (v := 4) C dX0_findVariables_14 (by decide) ?_
      refine rn_ic_ge C 4 4 rfl rfl (by decide) (by decide) (tgt := 57) dX0_findVariables_15 (by decide) (fun _ => ?_) (fun q => absurd q (by omega))
      have hK1 := hK0 (.int (nI 4))
      unfold vRd at hK1
      exact hK1
    | succ m ih =>
      intro v hv
      have ih' := ih (v + 1) (by omega)
      rw [rdF] at ih'
      generalize (List.range v).foldl (vSt w e t) Y0 = Y at ih' ⊢
      have h4 : v < 4 := by omega
      have hkc' := hkc Y
      refine r_iload_n (i := 3) C dX0_findVariables_13 rfl rfl ?_
      refine r_iconst (v := 4) C dX0_findVariables_14 (by decide) ?_
      refine rn_ic_ge C v 4 rfl rfl (by omega) (by decide) (tgt := 57) dX0_findVariables_15 (by decide) (fun q => absurd q (by omega)) (fun _ => ?_)
      refine r_aload_n (i := 0) C dX0_findVariables_18 rfl rfl (by first | rfl | exact isR_rf _) ?_
      refine r_iload_n (i := 3) C dX0_findVariables_19 rfl rfl ?_
      refine r_callVs C v_X0_55 (MR Y v h4) dX0_findVariables_20 (by assumption) (ci := 1) (by decide) rfl rfl (As := [_]) rfl rfl rfl (by first | exact Nat.le_refl _ | exact Nat.le_of_ble_eq_true rfl | omega) (Nat.le_of_ble_eq_true rfl) (by first | exact Nat.le_refl _ | exact Nat.le_of_ble_eq_true rfl | omega) (by first | exact Nat.le_refl _ | exact Nat.le_of_ble_eq_true rfl | omega) ?_
      by_cases hr : rgA (ndZ t) v 4 v = true
      · rw [if_pos hr]
        have hs : vSt w e t Y v = pz Y e (10 + v) (-1, -1) := if_pos hr
        rw [hs] at ih'
        refine r_if_eq (tgt := 42) C dX0_findVariables_23 (by decide) (fun q => absurd q (by decide)) (fun _ => ?_)
        have hke' := hke Y
        have hkf' := hkf Y
        refine r_aload_n (i := 1) C dX0_findVariables_26 rfl rfl (by first | rfl | exact isR_rf _) ?_
        refine r_getR C f_X0_59 dX0_findVariables_27 rfl (by assumption) ?_
        rw [show hR (cm w h1 Y) fE_fresh (wE w e) = some (wf w e) from hfr]
        refine r_bipush (v := 10) C dX0_findVariables_30 (by decide) ?_
        refine r_iload_n (i := 3) C dX0_findVariables_32 rfl rfl ?_
        refine r_iadd C dX0_findVariables_33 ?_
        rw [show (10 : Int32) + nI v = nI (10 + v) from nI_add 10 v]
        refine r_iconst (v := (-1)) C dX0_findVariables_34 (by decide) ?_
        refine r_iconst (v := (-1)) C dX0_findVariables_35 (by decide) ?_
        refine r_callVn C v_X0_65 (MP Y v h4) dX0_findVariables_36 (by assumption) (ci := 4) (by decide) rfl rfl (As := [_, _, _]) rfl rfl rfl (by first | exact Nat.le_refl _ | exact Nat.le_of_ble_eq_true rfl | omega) (Nat.le_of_ble_eq_true rfl) (by first | exact Nat.le_refl _ | exact Nat.le_of_ble_eq_true rfl | omega) (by first | exact Nat.le_refl _ | exact Nat.le_of_ble_eq_true rfl | omega) ?_
        refine r_goto (tgt := 51) C dX0_findVariables_39 (by decide) ?_
        refine r_iinc1 (i := 3) C dX0_findVariables_51 rfl ?_
        rw [nI_1]
        refine r_goto (tgt := 13) C dX0_findVariables_54 (by decide) ?_
        exact ih'
      · rw [if_neg hr]
        have hs : vSt w e t Y v = pz Y e (10 + v) (foZ w Y e (10 + v) (t (10 + v))) := if_neg hr
        rw [hs] at ih'
        refine r_if_eq (tgt := 42) C dX0_findVariables_23 (by decide) (fun _ => ?_) (fun q => absurd rfl q)
        refine r_aload_n (i := 0) C dX0_findVariables_42 rfl rfl (by first | rfl | exact isR_rf _) ?_
        refine r_aload_n (i := 1) C dX0_findVariables_43 rfl rfl (by first | rfl | exact isR_rf _) ?_
        refine r_bipush (v := 10) C dX0_findVariables_44 (by decide) ?_
        refine r_iload_n (i := 3) C dX0_findVariables_46 rfl rfl ?_
        refine r_iadd C dX0_findVariables_47 ?_
        rw [show (10 : Int32) + nI v = nI (10 + v) from nI_add 10 v]
        refine r_callVn C v_X0_48 (MF Y v h4) dX0_findVariables_48 (by assumption) (ci := 1) (by decide) rfl rfl (As := [_, _]) rfl rfl rfl (by first | exact Nat.le_refl _ | exact Nat.le_of_ble_eq_true rfl | omega) (Nat.le_of_ble_eq_true rfl) (by first | exact Nat.le_refl _ | exact Nat.le_of_ble_eq_true rfl | omega) (by first | exact Nat.le_refl _ | exact Nat.le_of_ble_eq_true rfl | omega) ?_
        refine r_iinc1 (i := 3) C dX0_findVariables_51 rfl ?_
        rw [nI_1]
        refine r_goto (tgt := 13) C dX0_findVariables_54 (by decide) ?_
        exact ih'
  have hout : ∀ (m i : Nat), i + m = 4 → ∀ v3, wr X 0 0 6 [.ref c, .ref (wE w e), .int (nI i), v3] [] (cm w h1 ((List.range i).foldl (fun Z _ => vRd w e t Z) Z)) := by
    intro m
    induction m with
    | zero =>
      intro i hi v3
      have : i = 4 := by omega
      subst this
      refine r_iload_n (i := 2) C dX0_findVariables_6 rfl rfl ?_
      refine r_iconst (v := 4) C dX0_findVariables_7 (by decide) ?_
      refine rn_ic_ge C 4 4 rfl rfl (by decide) (by decide) (tgt := 63) dX0_findVariables_8 (by decide) (fun _ => ?_) (fun q => absurd q (by omega))
      exact r_vret C E dX0_findVariables_63 rfl (by first | exact Nat.le_refl _ | exact Nat.le_of_ble_eq_true rfl | omega) (by first | exact Nat.le_refl _ | exact Nat.le_of_ble_eq_true rfl | omega)
    | succ m ih =>
      intro i hi v3
      have ih' := ih (i + 1) (by omega)
      rw [rdF] at ih'
      generalize (List.range i).foldl (fun Z _ => vRd w e t Z) Z = Y at ih' ⊢
      refine r_iload_n (i := 2) C dX0_findVariables_6 rfl rfl ?_
      refine r_iconst (v := 4) C dX0_findVariables_7 (by decide) ?_
      refine rn_ic_ge C i 4 rfl rfl (by omega) (by decide) (tgt := 63) dX0_findVariables_8 (by decide) (fun q => absurd q (by omega)) (fun _ => ?_)
      refine r_iconst (v := 0) C dX0_findVariables_11 (by decide) ?_
      refine r_istore_n (i := 3) C dX0_findVariables_12 rfl (Nat.le_of_ble_eq_true rfl) ?_
      have h13 := hin i Y (fun v3 => ?_) 4 0 rfl
      · rw [List.range_zero, List.foldl_nil] at h13
        exact h13
      refine r_iinc1 (i := 2) C dX0_findVariables_57 rfl ?_
      rw [nI_1]
      refine r_goto (tgt := 6) C dX0_findVariables_60 (by decide) ?_
      exact ih' _
  refine r_aload_n (i := 0) C dX0_findVariables_0 rfl rfl (by first | rfl | exact isR_rf _) ?_
  refine r_callVn C v_X0_52 M1 dX0_findVariables_1 (by assumption) (ci := 1) (by decide) rfl rfl (As := []) rfl rfl rfl (by first | exact Nat.le_refl _ | exact Nat.le_of_ble_eq_true rfl | omega) (Nat.le_of_ble_eq_true rfl) (by first | exact Nat.le_refl _ | exact Nat.le_of_ble_eq_true rfl | omega) (by first | exact Nat.le_refl _ | exact Nat.le_of_ble_eq_true rfl | omega) ?_
  refine r_iconst (v := 0) C dX0_findVariables_4 (by decide) ?_
  refine r_istore_n (i := 2) C dX0_findVariables_5 rfl (Nat.le_of_ble_eq_true rfl) ?_
  have h6 := hout 4 0 rfl (.long 0)
  rw [List.range_zero, List.foldl_nil] at h6
  exact h6
theorem cm_K (w : WZ) (h : Hp) (Z : MM) : hK (cm w h Z) = hK h := rfl
theorem fv_F (l : Launch) (G : Gl) {w : WZ} {h h1 : Hp} {c K P N e : Nat} {Ds : Nat → Nat} (ht : tlZ h1 K Ds = tlZ h K Ds) (hZ1 : ZW w h1) (hC1 : CW w h1 c K P N) (hD1 : DW h1 K Ds) (hV1 : VW h1 K Ds) (he : e < wn w) (Y : MM) (v : Nat) (hv : v < 4) :
    MRw l G yX0_findOne (.code yX0_findOne cX0_findOne 7 none) 2 0 0 [.ref c, .ref (wE w e), .int (nI (10 + v))] (cm w h1 Y) (.inl (none, cm w h1 (pz Y e (10 + v) (foZ w Y e (10 + v) (tlZ h K Ds (10 + v)))))) := by
  have := c_findOneZ l G (Z := Y) (p := 10 + v) hZ1 hC1 hD1 hV1 he (by omega)
  rw [ht] at this
  exact this
theorem c_findVariables (l : Launch) (G : Gl) {w : WZ} {h : Hp} {Z : MM} {c K P N e : Nat} {Ds : Nat → Nat} (hZ : ZW w h) (hC : CW w h c K P N) (hD : DW h K Ds) (hV : VW h K Ds) (he : e < wn w) :
    MRw l G yX0_findVariables (.code yX0_findVariables cX0_findVariables 4 none) 3 0 0 [.ref c, .ref (wE w e)] (cm w h Z) (.inl (none, cm w (wrN h K N Ds 4) ((List.range 4).foldl (fun Z _ => vRd w e (tlZ h K Ds) Z) Z))) := by
  have hC1 := wrN_w (Ds := Ds) hC
  have hZ1 := fv_Z (K := K) (N := N) (Ds := Ds) hZ
  have hn : ∀ a, a < 4 → hA (wrN h K N Ds 4) N a = eo (ndZ (tlZ h K Ds) a) := fun a ha => (wrN_at 4 a ha).trans (ned_nd hV ha).1
  exact fv_walk l G (fv_M l G hC hD) (fv_R l G hC1 hV hn) (fv_P l G hZ1 he) (fv_F l G fv_t hZ1 hC1 (fv_D hD) (fv_V hV) he)
    (hZ1.1 e he).2.1 (fun Y => (congrFun (cm_K w _ Y) c).trans hC1.1) (fun Y => (congrFun (cm_K w _ Y) (wE w e)).trans (hZ1.1 e he).1) (fun Y => (congrFun (cm_K w _ Y) (wf w e)).trans (hZ1.1 e he).2.2.1) ((congrFun (cm_K w _ Z) c).trans hC.1)
