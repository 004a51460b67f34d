/-! ===== a removal: the links in the heap ===== -/
theorem ulk_lk {h : Hp} {t : Nat} (ha : hR h fE_ahead t ≠ some t) (x : Nat) :
    hR (ulk h t) fE_next x = (if hR h fE_ahead t = some x then hR h fE_next t else hR h fE_next x) ∧ hR (ulk h t) fE_first x = (if hR h fE_ahead t = none ∧ hR h fE_parent t = some x then hR h fE_next t else hR h fE_first x) ∧
    hR (ulk h t) fE_ahead x = (if hR h fE_next t = some x then hR h fE_ahead t else hR h fE_ahead x) ∧ hR (ulk h t) fE_last x = (if hR h fE_next t = none ∧ hR h fE_parent t = some x then hR h fE_ahead t else hR h fE_last x) := by
  have eA : hR (ulA h t) fE_ahead = hR h fE_ahead := ulA_R (by decide) (by decide)
  have eP : hR (ulA h t) fE_parent = hR h fE_parent := ulA_R (by decide) (by decide)
  have eL : hR (ulA h t) fE_last = hR h fE_last := ulA_R (by decide) (by decide)
  have A1 : ∀ x, hR (ulA h t) fE_next x = (if hR h fE_ahead t = some x then hR h fE_next t else hR h fE_next x) ∧ hR (ulA h t) fE_first x = (if hR h fE_ahead t = none ∧ hR h fE_parent t = some x then hR h fE_next t else hR h fE_first x) := by
    intro x
    cases hl : hR h fE_ahead t with
    | some a =>
      have e : ulA h t = sR h fE_next a (hR h fE_next t) := by
        unfold ulA
        rw [hl]
      rw [e]
      refine ⟨?_, ?_⟩
      · by_cases z : x = a
        · rw [z, rR_at, if_pos rfl]
        · rw [rR_nb z, if_neg (show ¬ some a = some x from fun w => z (Option.some.inj w).symm)]
      · rw [rR_ne (by decide), if_neg (show ¬ (some a = none ∧ hR h fE_parent t = some x) from fun w => by cases w.1)]
    | none =>
      cases hp : hR h fE_parent t with
      | some b =>
        have e : ulA h t = sR h fE_first b (hR h fE_next t) := by
          unfold ulA
          rw [hl, hp]
        rw [e]
        refine ⟨?_, ?_⟩
        · rw [rR_ne (by decide), if_neg (show ¬ (none : Option Nat) = some x from fun w => by cases w)]
        · by_cases z : x = b
          · rw [z, rR_at, if_pos ⟨rfl, rfl⟩]
          · rw [rR_nb z, if_neg (show ¬ ((none : Option Nat) = none ∧ some b = some x) from fun w => z (Option.some.inj w.2).symm)]
      | none =>
        have e : ulA h t = h := by
          unfold ulA
          rw [hl, hp]
        rw [e]
        refine ⟨?_, ?_⟩
        · rw [if_neg (show ¬ (none : Option Nat) = some x from fun w => by cases w)]
        · rw [if_neg (show ¬ ((none : Option Nat) = none ∧ (none : Option Nat) = some x) from fun w => by cases w.2)]
  have nt : hR (ulA h t) fE_next t = hR h fE_next t := by rw [(A1 t).1, if_neg ha]
  have f1 : hR (ulk h t) fE_next = hR (ulA h t) fE_next := ulB_R (by decide) (by decide)
  have f2 : hR (ulk h t) fE_first = hR (ulA h t) fE_first := ulB_R (by decide) (by decide)
  refine ⟨by rw [f1]; exact (A1 x).1, by rw [f2]; exact (A1 x).2, ?_⟩
  cases hl : hR h fE_next t with
  | some a =>
    have e : ulk h t = sR (ulA h t) fE_ahead a (hR h fE_ahead t) := by
      unfold ulk ulB
      rw [nt, hl, eA]
    rw [e]
    refine ⟨?_, ?_⟩
    · by_cases z : x = a
      · rw [z, rR_at, if_pos rfl]
      · rw [rR_nb z, eA, if_neg (show ¬ some a = some x from fun w => z (Option.some.inj w).symm)]
    · rw [rR_ne (by decide), eL, if_neg (show ¬ (some a = none ∧ hR h fE_parent t = some x) from fun w => by cases w.1)]
  | none =>
    cases hp : hR h fE_parent t with
    | some b =>
      have e : ulk h t = sR (ulA h t) fE_last b (hR h fE_ahead t) := by
        unfold ulk ulB
        rw [nt, hl, eP, hp, eA]
      rw [e]
      refine ⟨?_, ?_⟩
      · rw [rR_ne (by decide), eA, if_neg (show ¬ (none : Option Nat) = some x from fun w => by cases w)]
      · by_cases z : x = b
        · rw [z, rR_at, if_pos ⟨rfl, rfl⟩]
        · rw [rR_nb z, eL, if_neg (show ¬ ((none : Option Nat) = none ∧ some b = some x) from fun w => z (Option.some.inj w.2).symm)]
    | none =>
      have e : ulk h t = ulA h t := by
        unfold ulk ulB
        rw [nt, hl, eP, hp]
      rw [e]
      refine ⟨?_, ?_⟩
      · rw [eA, if_neg (show ¬ (none : Option Nat) = some x from fun w => by cases w)]
      · rw [eL, if_neg (show ¬ ((none : Option Nat) = none ∧ (none : Option Nat) = some x) from fun w => by cases w.2)]
/-- the addresses of those that stay -/
def Ekp (S : MM) (n p : Nat) (Ee : Nat → Nat) : Nat → Nat := fun i => Ee (((kpl S n p)[i]?).getD 0)
theorem Ekp_s {S : MM} {n p e : Nat} {Ee : Nat → Nat} (he : e < n) (hs : stay S p e = true) : Ekp S n p Ee (cn (stay S p) e) = Ee e := by
  unfold Ekp kpl
  rw [flt_at he hs]
  rfl
theorem map_gd {f : Nat → Nat} (l : List Nat) : (List.range l.length).map (fun i => f ((l[i]?).getD 0)) = l.map f := by
  refine List.ext_getElem? (fun i => ?_)
  rw [List.getElem?_map, List.getElem?_map]
  by_cases q : i < l.length
  · rw [List.getElem?_range q, List.getElem?_eq_getElem q]
    show some (f ((l[i]?).getD 0)) = some (f l[i])
    rw [List.getElem?_eq_getElem q]
    rfl
  · rw [List.getElem?_eq_none (by rw [List.length_range]; omega), List.getElem?_eq_none (by omega)]
    rfl
theorem om_i {n a : Nat} {Ee : Nat → Nat} {o : Option Nat} (hi : inj n Ee) (ho : ∀ c, o = some c → c < n) (ha : a < n) : o.map Ee = some (Ee a) ↔ o = some a := by
  cases o with
  | none => exact ⟨fun z => (by cases z), fun z => (by cases z)⟩
  | some b =>
    constructor
    · intro z
      rw [hi b (ho b rfl) a ha (Option.some.inj z)]
    · intro z
      rw [Option.some.inj z]
      rfl
theorem TEL_rm {S T : MM} {n p : Nat} {h h2 : Hp} {Ee : Nat → Nat} (hS : TS S n) (hp : p < n) (hp0 : 0 < p) (H : TEL S n h Ee) (R : RMV S T n p)
    (fI : ∀ f, f ≠ fA_modCount → f ≠ fA_size → hI h2 f = hI h f) (fR : ∀ f, f ≠ fA_elementData → hR h2 f = hR (ulk h (Ee p)) f) : TEL T (kpl S n p).length h2 (Ekp S n p Ee) := by
  obtain ⟨hi, hT⟩ := H
  have hlen : (kpl S n p).length = cn (stay S p) n := cn_flt n
  have at1 : ∀ i, i < (kpl S n p).length → ∃ e, (kpl S n p)[i]? = some e ∧ e < n ∧ stay S p e = true ∧ cn (stay S p) e = i := fun i hi => by
    have h1 := List.getElem?_eq_getElem hi
    obtain ⟨y1, y2, y3⟩ := cn_at (P := stay S p) (n := n) (i := i) h1
    exact ⟨_, h1, y1, y2, y3⟩
  obtain ⟨pp, _, _, hpp⟩ := par_s hS hp0 hp
  obtain ⟨_, p1, p2, p3, p4, p5⟩ := hT p hp
  have al : ∀ e, e < n → ∀ c, ahS S e e = some c → c < n := fun e he c hc => Nat.lt_trans (ahS_lt hc) he
  have nl : ∀ e c, nxS S n e = some c → c < n := fun e c hc => nx_lt hc
  have L := ulk_lk (h := h) (t := Ee p) (by
    rw [p2]
    intro w
    have := (om_i hi (al p hp) hp).mp w
    have := ahS_lt this
    omega)
  have upm : ∀ {o : Option Nat}, (∀ c, o = some c → c < n ∧ stay S p c = true) → (o.map (cn (stay S p))).map (Ekp S n p Ee) = o.map Ee := fun {o} ho => by
    cases o with
    | none => rfl
    | some c =>
      obtain ⟨a, b⟩ := ho c rfl
      show some (Ekp S n p Ee (cn (stay S p) c)) = some (Ee c)
      rw [Ekp_s a b]
  refine ⟨fun i hi2 j hj z => ?_, fun i hi2 => ?_⟩
  · obtain ⟨e, _, e2, e3, e4⟩ := at1 i hi2
    obtain ⟨f, _, f2, f3, f4⟩ := at1 j hj
    rw [← e4, ← f4, Ekp_s e2 e3, Ekp_s f2 f3] at z
    rw [← e4, ← f4, hi e e2 f f2 z]
  · obtain ⟨e, e1, e2, e3, e4⟩ := at1 i hi2
    obtain ⟨r1, _, r3, r4, r5, r6⟩ := R.2.2 i e e1
    obtain ⟨⟨j1, j2, j3, j4, j5⟩, j6, j7, j8, j9, j10⟩ := hT e e2
    obtain ⟨k1, k2, k3, k4⟩ := rm_lk hS hp hp0 R e2 e3
    obtain ⟨x1, x2, x3, x4⟩ := L (Ee e)
    have kp := rm_par R e2 e3
    have hrp : hR (ulk h (Ee p)) fE_parent = hR h fE_parent := ulk_R (by decide) (by decide) (by decide) (by decide)
    rw [hlen, r1, r3, r4, r5, r6, ← e4, Ekp_s e2 e3, kp, k1, k2, k3, k4, fI _ (by decide) (by decide), fI _ (by decide) (by decide), fI _ (by decide) (by decide), fI _ (by decide) (by decide), fI _ (by decide) (by decide), fR _ (by decide), fR _ (by decide), fR _ (by decide), fR _ (by decide), fR _ (by decide), hrp, x1, x2, x3, x4, p1, p2, p3, j6, j7, j8, j9, j10]
    have stp : ∀ {q c : Nat}, stay S p q = true → c < n → (sib S q c ∧ c ≠ p) → stay S p c = true := fun {q c} a b w => st_ch hS b w.1 a w.2
    refine ⟨⟨j1, j2, j3, j4, j5⟩, ?_, ?_, ?_, ?_, ?_⟩
    · exact (upm (fun c hc => ⟨((par_S hS e2).2 c hc).2, st_up hS e2 hc e3⟩)).symm
    · refine Eq.trans ?_ (upm (o := ahr S n p e) (fun c hc => ?_)).symm
      · unfold ahr
        by_cases y : nxS S n p = some e
        · rw [if_pos y, if_pos ((om_i hi (nl p) e2).mpr y)]
        · rw [if_neg y, if_neg (fun w => y ((om_i hi (nl p) e2).mp w))]
      · cases hpe : par S e with
        | none =>
          have e0 := par_n hS e2 hpe
          subst e0
          unfold ahr at hc
          by_cases y : nxS S n p = some 0
          · have := nx_L hp hpp
            rw [y] at this
            have := this.1
            omega
          · rw [if_neg y] at hc
            cases hc
        | some q =>
          have G := ahr_G hS hp hpp e2 hpe
          rw [hc] at G
          exact ⟨by have := G.1; omega, stp (st_up hS e2 hpe e3) (by have := G.1; omega) G.2.1⟩
    · refine Eq.trans ?_ (upm (o := nxr S n p e) (fun c hc => ?_)).symm
      · unfold nxr
        by_cases y : ahS S p p = some e
        · rw [if_pos y, if_pos ((om_i hi (al p hp) e2).mpr y)]
        · rw [if_neg y, if_neg (fun w => y ((om_i hi (al p hp) e2).mp w))]
      · cases hpe : par S e with
        | none =>
          unfold nxr at hc
          by_cases y : ahS S p p = some e
          · have G := ah_G hS hp hpp
            rw [y] at G
            have := G.2.1
            unfold sib at this
            rw [hpe] at this
            cases this
          · rw [if_neg y, nx_0 hpe] at hc
            cases hc
        | some q =>
          have G := nxr_L hS hp hpp e2 hpe
          rw [hc] at G
          exact ⟨G.2.1, stp (st_up hS e2 hpe e3) G.2.1 G.2.2.1⟩
    · refine Eq.trans ?_ (upm (o := hdr S n p e) (fun c hc => ?_)).symm
      · unfold hdr
        by_cases y : ahS S p p = none ∧ par S p = some e
        · rw [if_pos y, if_pos ⟨gl_e0.mpr y.1, (om_i hi (fun c hc => ((par_S hS hp).2 c hc).2) e2).mpr y.2⟩]
        · rw [if_neg y, if_neg (fun w => y ⟨gl_e0.mp w.1, (om_i hi (fun c hc => ((par_S hS hp).2 c hc).2) e2).mp w.2⟩)]
      · have G := hdr_L (e := e) hS hp hpp
        rw [hc] at G
        exact ⟨G.2.1, stp e3 G.2.1 G.2.2.1⟩
    · refine Eq.trans ?_ (upm (o := glr S n p e) (fun c hc => ?_)).symm
      · unfold glr
        by_cases y : nxS S n p = none ∧ par S p = some e
        · rw [if_pos y, if_pos ⟨gl_e0.mpr y.1, (om_i hi (fun c hc => ((par_S hS hp).2 c hc).2) e2).mpr y.2⟩]
        · rw [if_neg y, if_neg (fun w => y ⟨gl_e0.mp w.1, (om_i hi (fun c hc => ((par_S hS hp).2 c hc).2) e2).mp w.2⟩)]
      · have G := glr_G (e := e) hS hp hpp
        rw [hc] at G
        exact ⟨G.1, stp e3 G.1 G.2.1⟩
theorem pm_f {P : Nat → Bool} : ∀ l : List Nat, List.Perm l (l.filter (fun x => !(P x)) ++ l.filter P)
  | [] => List.Perm.refl _
  | x :: l => by
    have ih := pm_f (P := P) l
    rw [List.filter_cons, List.filter_cons]
    by_cases hx : P x = true
    · rw [if_pos hx, if_neg (show ¬ (!(P x)) = true from by rw [hx]; decide)]
      exact (ih.cons x).trans List.perm_middle.symm
    · rw [if_neg hx, if_pos (show (!(P x)) = true from by rw [Bool.eq_false_iff.mpr hx]; rfl)]
      exact ih.cons x
theorem pm_6 {a b c r : List Nat} (h : List.Perm b r) : List.Perm ((a ++ b) ++ c) (a ++ (c ++ r)) := by
  refine List.perm_iff_count.mpr (fun x => ?_)
  have := List.perm_iff_count.mp h x
  simp only [List.count_append]
  omega
