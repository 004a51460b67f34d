/-! ===== what findValues does to the table, as a function of the told base ===== -/
noncomputable def flZ (w : WZ) (h : Hp) (pts U up : Nat → List Nat) (e : Nat) (Z : MM) (r : Nat) : Bool :=
  @decide ((hI h fU_least r = -1 ∨ hI h fU_least r ≤ waZ w Z (up e)) ∧ SL h U (pts r) (wE w e)) (Classical.propDecidable _)
theorem flZ_iff {w : WZ} {h : Hp} {pts U up : Nat → List Nat} {e : Nat} {Z : MM} {r : Nat} : flZ w h pts U up e Z r = true ↔ (hI h fU_least r = -1 ∨ hI h fU_least r ≤ waZ w Z (up e)) ∧ SL h U (pts r) (wE w e) := by
  unfold flZ
  exact @decide_eq_true_iff _ (Classical.propDecidable _)
noncomputable def TZ (w : WZ) (h : Hp) (Ds : Nat → Nat) (ss : List Nat) (pts U up : Nat → List Nat) (e : Nat) (Z : MM) (p : Nat) : Option (Int32 × Int32 × Int32 × Int32) :=
  tellT h Ds (ldF h Ds (ss.filter (flZ w h pts U up e Z)) p).1 p
noncomputable def valZ (w : WZ) (h : Hp) (Ds : Nat → Nat) (ss : List Nat) (pts U up : Nat → List Nat) (e : Nat) (Z : MM) : MM := fvZ w e (TZ w h Ds ss pts U up e Z) Z
theorem SL_XF {w : WZ} {h h' : Hp} {l d d' K P N : Nat} {U : Nat → List Nat} (F : XF w h h' l d d' K P N) (ps : List Nat) (a : Nat) : SL h' U ps a = SL h U ps a := by
  have hl := lik_eq (h := h) (h' := h') (XF_I F (by decide) (by decide) (Or.inr (by decide))) (XF_I F (by decide) (by decide) (Or.inl (by decide))) (XF_I F (by decide) (by decide) (Or.inl (by decide))) (XF_I F (by decide) (by decide) (Or.inr (by decide))) (XF_I F (by decide) (by decide) (Or.inr (by decide)))
  have hp : hR h' fE_parent = hR h fE_parent := F.2.2.2.2.1 _ (by decide)
  have ha : hR h' fE_ahead = hR h fE_ahead := F.2.2.2.2.1 _ (by decide)
  cases ps with
  | nil => rfl
  | cons q qs =>
    show (lik h' q a ∧ RS h' U qs a) = (lik h q a ∧ RS h U qs a)
    rw [hl, RS_eq hl (XF_I F (by decide) (by decide) (Or.inr (by decide))) hp ha]
theorem flZ_XF {w : WZ} {h h' : Hp} {l d d' K P N : Nat} {pts U up : Nat → List Nat} (F : XF w h h' l d d' K P N) (e : Nat) (Z : MM) : flZ w h' pts U up e Z = flZ w h pts U up e Z := by
  funext r
  have e1 : hI h' fU_least = hI h fU_least := XF_I F (by decide) (by decide) (Or.inr (by decide))
  have e2 := SL_XF (U := U) F (pts r) (wE w e)
  have : flZ w h' pts U up e Z r = true ↔ flZ w h pts U up e Z r = true := by rw [flZ_iff, flZ_iff, e1, e2]
  cases q : flZ w h pts U up e Z r with
  | true => exact this.mpr q
  | false =>
    cases z : flZ w h' pts U up e Z r with
    | false => rfl
    | true => rw [this.mp z] at q; cases q
theorem TZ_XF {w : WZ} {h h' : Hp} {l d d' K P N : Nat} {ss : List Nat} {Ds : Nat → Nat} {pts U up : Nat → List Nat} (hg : Good h) (F : XF w h h' l d d' K P N) (hK2 : hK h K = 104) (hd : d = 4 ∨ hK h d = 103) (hU : UW h ss Ds) (e : Nat) (Z : MM) : TZ w h' Ds ss pts U up e Z = TZ w h Ds ss pts U up e Z := by
  funext p
  unfold TZ
  rw [flZ_XF F]
  have q1 : ∀ r, r ∈ ss.filter (flZ w h pts U up e Z) → hQ h' (Ds r) = hQ h (Ds r) := fun r hr => XF_Q hg F hK2 hd (hU r (List.mem_filter.mp hr).1).1.2.2.1
  rw [ldF_eq (XF_I F (by decide) (by decide) (Or.inr (by decide))) (XF_I F (by decide) (by decide) (Or.inl (by decide))) q1]
  cases hr : (ldF h Ds (ss.filter (flZ w h pts U up e Z)) p).1 with
  | none => rfl
  | some r =>
    show (match hQ h' (Ds r) p with | none => none | some d => some (hI h' fD_kind d, hI h' fD_number d, hI h' fD_variable d, hI h' fU_number r)) = (match hQ h (Ds r) p with | none => none | some d => some (hI h fD_kind d, hI h fD_number d, hI h fD_variable d, hI h fU_number r))
    rw [q1 r (ldF_mem hr), XF_I F (f := fD_kind) (by decide) (by decide) (Or.inl (by decide)), XF_I F (f := fD_number) (by decide) (by decide) (Or.inl (by decide)), XF_I F (f := fD_variable) (by decide) (by decide) (Or.inl (by decide)), XF_I F (f := fU_number) (by decide) (by decide) (Or.inr (by decide))]
theorem valZ_XF {w : WZ} {h h' : Hp} {l d d' K P N : Nat} {ss : List Nat} {Ds : Nat → Nat} {pts U up : Nat → List Nat} (hg : Good h) (F : XF w h h' l d d' K P N) (hK2 : hK h K = 104) (hd : d = 4 ∨ hK h d = 103) (hU : UW h ss Ds) : valZ w h' Ds ss pts U up = valZ w h Ds ss pts U up := by
  funext e Z
  unfold valZ
  rw [TZ_XF hg F hK2 hd hU]
/-- the variables that are needed are variables -/
theorem TZ_var {w : WZ} {h : Hp} {ss : List Nat} {Ds : Nat → Nat} {pts U up : Nat → List Nat} (hU : UW h ss Ds) {e p : Nat} {Z : MM} (hp : p < 14) {n x u : Int32} (ht : TZ w h Ds ss pts U up e Z p = some (5, n, x, u)) : ∃ v, v < 4 ∧ x = nI v := by
  unfold TZ at ht
  cases hr : (ldF h Ds (ss.filter (flZ w h pts U up e Z)) p).1 with
  | none => rw [hr] at ht; cases ht
  | some r =>
    rw [hr] at ht
    have hm : r ∈ ss := (List.mem_filter.mp (ldF_mem hr)).1
    unfold tellT at ht
    cases hd : hQ h (Ds r) p with
    | none => simp only [hd] at ht; cases ht
    | some d =>
      simp only [hd] at ht
      have := Option.some.inj ht
      have k5 : hI h fD_kind d = 5 := congrArg (fun z => z.1) this
      have xx : hI h fD_variable d = x := congrArg (fun z => z.2.2.1) this
      obtain ⟨v, v1, v2⟩ := ((hU r hm).2 p d hp hd).2 k5
      exact ⟨v, v1, by rw [← xx, v2]⟩
theorem rgA_c {f g : Nat → Option Nat} (h1 : ∀ a, a < 4 → f a = g a) (h2 : ∀ a u, a < 4 → g a = some u → u < 4) {v : Nat} : ∀ n a, a < 4 → rgA f v n a = rgA g v n a
  | 0, _, _ => rfl
  | n + 1, a, ha => by
    unfold rgA
    rw [h1 a ha]
    cases hq : g a with
    | none => rfl
    | some u => 
      show (if u = v then true else rgA f v n u) = (if u = v then true else rgA g v n u)
      rw [rgA_c h1 h2 n u (h2 a u ha hq)]
theorem fold_c {f g : MM → Nat → MM} : ∀ (n : Nat) (Z : MM), (∀ p Z, p < n → f Z p = g Z p) → (List.range n).foldl f Z = (List.range n).foldl g Z
  | 0, _, _ => rfl
  | n + 1, Z, h => by
    rw [rdF, rdF, fold_c n Z (fun p Z hp => h p Z (by omega)), h n _ (by omega)]
theorem fvZ_c {w : WZ} {e : Nat} {T T' : Nat → Option (Int32 × Int32 × Int32 × Int32)} (h1 : ∀ p, p < 14 → T p = T' p) (h2 : ∀ a u, a < 4 → ndZ T' a = some u → u < 4) (Z : MM) : fvZ w e T Z = fvZ w e T' Z := by
  have hn : ∀ a, a < 4 → ndZ T a = ndZ T' a := fun a ha => by unfold ndZ; rw [h1 (10 + a) (by omega)]
  have hr : ∀ Z, vRd w e T Z = vRd w e T' Z := fun Z => fold_c 4 Z (fun v Y hv => by
    unfold vSt
    rw [rgA_c hn h2 4 v hv, h1 (10 + v) (by omega)])
  unfold fvZ
  rw [fold_c (f := fun Z _ => vRd w e T Z) (g := fun Z _ => vRd w e T' Z) 4 Z (fun _ Y _ => hr Y)]
  exact fold_c 10 _ (fun p Y hp => by
    show pz Y e p (foZ w Y e p (T p)) = pz Y e p (foZ w Y e p (T' p))
    rw [h1 p (by omega)])
/-- findValues over the table -/
theorem c_findValuesZ (l : Launch) (G : Gl) {w : WZ} {h : Hp} {Z : MM} {c b K P N S L dS d e : Nat} {ss : List Nat} {pts : Nat → List Nat} {Ds : Nat → Nat} {U up : Nat → List Nat}
    (H : FW w h c b K P N S L dS d ss pts Ds U) (he : e < wn w) (hup : U (wE w e) = (up e).map (wE w)) (hup2 : ∀ q, q ∈ up e → q < wn w) :
    ∃ (h' : Hp) (d' k : Nat), MRw l G yX0_findValues (.code yX0_findValues cX0_findValues 3 none) 9 k (60 * k) [.ref c, .ref (wE w e)] (cm w h Z) (.inl (none, cm w h' (valZ w h Ds ss pts U up e Z))) ∧
      FW w h' c b K P N S L dS d' ss pts Ds U ∧ XF w h h' L d d' K P N ∧ k + Ph h' d' ≤ Ph h d := by
  obtain ⟨h', d', k, T, M, H', X', hc, hT⟩ := c_findValues l G (Z := Z) (fl := flZ w h pts U up e Z) H he hup hup2 (fun r _ => flZ_iff)
  have hU := H.2.2.2.2.2.2.1
  have : fvZ w e T Z = valZ w h Ds ss pts U up e Z := fvZ_c (T' := TZ w h Ds ss pts U up e Z) hT (fun a u ha hq => by
    unfold ndZ at hq
    cases ht : TZ w h Ds ss pts U up e Z (10 + a) with
    | none => simp only [ht] at hq; cases hq
    | some t =>
      obtain ⟨k, n, x, y⟩ := t
      simp only [ht] at hq
      by_cases k5 : k = 5
      · subst k5
        obtain ⟨v, v1, v2⟩ := TZ_var hU (by omega) ht
        rw [if_pos rfl, v2, nI_clamp (by omega)] at hq
        cases hq
        exact v1
      · rw [if_neg k5] at hq
        cases hq) Z
  rw [this] at M
  exact ⟨h', d', k, M, H', X', hc⟩
