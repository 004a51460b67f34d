/-! ===== what a rule declares, changed ===== -/
def RV (S S' : MM) : Prop := ∀ k, 10 ≤ k → k ≤ 18 → S' k = S k
theorem gS_v {S S' : MM} (g : RV S S') : gS S' = gS S := funext fun r => by
  unfold gS
  rw [g 16 (by decide) (by decide), g 17 (by decide) (by decide), g 18 (by decide) (by decide)]
theorem wtS_v {S S' : MM} (g : RV S S') (r : Nat) : ∀ k, wtS S' r k = wtS S r k
  | 0 => rfl
  | k + 1 => by
    show wtS S' r k + ptW S' (3 * r + k) = wtS S r k + ptW S (3 * r + k)
    unfold ptW
    rw [wtS_v g r k, g 13 (by decide) (by decide), g 14 (by decide) (by decide), g 15 (by decide) (by decide)]
theorem wS_v {S S' : MM} (g : RV S S') (r : Nat) : wS S' r = wS S r := by
  unfold wS
  rw [wtS_v g, g 11 (by decide) (by decide)]
theorem stB_v {S S' : MM} (g : RV S S') : stB S' = stB S := funext fun r => funext fun q => by
  unfold stB
  rw [gS_v g, wS_v g, wS_v g]
theorem RTo_v {S S' : MM} {R : Nat} (g : RV S S') (h : RTo S R) : RTo S' R := by
  unfold RTo RSo at *
  rw [g 10 (by decide) (by decide), g 11 (by decide) (by decide), g 14 (by decide) (by decide), g 15 (by decide) (by decide), g 16 (by decide) (by decide), g 17 (by decide) (by decide), g 18 (by decide) (by decide)]
  exact h
theorem TLD_dc {A D : Nat → Nat} {m : Nat} {h : Hp} {S T : MM} {n R q : Nat} {Ee : Nat → Nat} {is ss : List Nat} {ra : Nat → Nat} {pa : Nat → Nat → Nat} {Dd Pl dP : Nat → Nat} {Gf : Nat → Option Nat} {c : Int32} (hq : q < R) (TL : TLD A D m h S n R Ee is ss ra pa Dd Pl dP) (hE : ∀ a, 1 ≤ a → a ≤ 19 → T a = S a) (h20 : ∀ r p, r < R → r ≠ q → p < 14 → T 20 (14 * r + p) = S 20 (14 * r + p) ∧ T 21 (14 * r + p) = S 21 (14 * r + p) ∧ T 22 (14 * r + p) = S 22 (14 * r + p))
    (hc : c = nI (cn (dclS T q) 14)) (hG : ∀ p, p < 14 → (∀ d, Gf p = some d → hK h d = 2) ∧ DR T h (14 * q + p) (Gf p)) (hGn : ∀ j d, Gf j = some d → d < hN h) :
    TLD A D m (sQf (sI h fU_declarationCount (ra q) c) (Dd q) Gf) T n R Ee is ss ra pa Dd Pl dP := by
  obtain ⟨hg, hX, ⟨l7, l8, ⟨⟨xs, l9⟩, cp⟩, l10, l11, lp⟩, hEL, hT, ⟨ri, di, hRr⟩, hx, s1, s2⟩ := TL
  obtain ⟨h1, eh1⟩ : ∃ z, z = sQf (sI h fU_declarationCount (ra q) c) (Dd q) Gf := ⟨_, rfl⟩
  have K : KP h h1 := by rw [eh1]; exact ⟨Nat.le_refl _, fun _ _ => ⟨rfl, rfl⟩⟩
  have hr1 := (kind_in hg (hRr q hq).2.2.2.1.1 (by decide)).2
  have hD1 := (kind_in hg (hRr q hq).2.2.2.1.2.2.1 (by decide)).2
  have g1 : Good h1 := by
    rw [eh1]
    exact gd_sQf (gd_sI hg hr1) hD1 hGn
  have fR : ∀ f, hR h1 f = hR h f := fun f => by rw [eh1]; rfl
  have fI : ∀ f, f ≠ fU_declarationCount → hI h1 f = hI h f := fun f hf => by rw [eh1, hI_sQf, iI_ne hf]
  have fIc : ∀ x, x ≠ ra q → hI h1 fU_declarationCount x = hI h fU_declarationCount x := fun x hx => by rw [eh1, hI_sQf, iI_nb hx]
  have fIq : hI h1 fU_declarationCount (ra q) = c := by rw [eh1, hI_sQf, iI_at]
  have fQ : ∀ x, x ≠ Dd q → hQ h1 x = hQ h x := fun x hx => by rw [eh1, qF_ne hx]; rfl
  have fQq : hQ h1 (Dd q) = Gf := by rw [eh1, qF_eq]
  have alf : ∀ {l d : Nat} {xs : List Nat}, AL h l d xs → AL h1 l d xs := fun {l d xs} H => AL_f hg K (by rw [fI _ (by decide)]) (by rw [fR]) (fun _ k => fQ d (fun z => by
    rw [z, (hRr q hq).2.2.2.1.2.2.1] at k
    exact absurd k (by decide))) H
  have ge : EU S T := fun a a1 a2 => hE a (by omega) (by omega)
  have gv : RV S T := fun a a1 a2 => hE a (by omega) (by omega)
  rw [← eh1]
  refine ⟨g1, FXD_f hg K (fun f _ => fR f) hX, ⟨alf l7, alf l8, ⟨⟨xs, alf l9⟩, ?_⟩, alf l10, alf l11, lp⟩, ?_, TEL_e ge (TEL_f (fun f hf => fI f ?_) (fun f hf => fR f) hT), ⟨ri, di, fun r hr => ?_⟩, ?_, ?_, ?_⟩
  · rw [eh1]
    exact cp
  · rw [eh1]
    exact hEL
  · rcases hf with z | z | z | z | z <;> subst z <;> decide
  · obtain ⟨⟨u1, u2, u3, u4, u5⟩, ⟨p1, p2⟩, p3, p4, p5⟩ := hRr r hr
    refine ⟨⟨?_, ?_, ?_, ?_, ?_⟩, ⟨?_, ?_⟩, fun k hk => ?_, UD_f hg K (fR _) p4, fun p hp => ?_⟩
    · rw [fI _ (by decide), hE 19 (by decide) (by decide)]; exact u1
    · rw [fI _ (by decide), gS_v gv]; exact u2
    · rw [fI _ (by decide)]; exact u3
    · rw [fI _ (by decide), wS_v gv]; exact u4
    · by_cases z : r = q
      · rw [z, fIq]; exact hc
      · rw [fIc _ (fun y => z (ri r hr q hq y)), u5, cn_c 14 (fun p hp => by
          show dclS S r p = dclS T r p
          unfold dclS
          rw [(h20 r p hr z hp).1])]
    · rw [fR]; exact p1
    · rw [hE 11 (by decide) (by decide)]
      exact alf p2
    · rw [hE 11 (by decide) (by decide)] at hk
      obtain ⟨a, b, c', d, e⟩ := p3 k hk
      rw [hE 12 (by decide) (by decide), hE 13 (by decide) (by decide), hE 14 (by decide) (by decide), hE 15 (by decide) (by decide), fI fP_tag (by decide), fI fP_has (by decide), fI fP_lacks (by decide), fI fP_way (by decide)]
      exact ⟨KP_k hg K a (by decide), b, c', d, e⟩
    · by_cases z : r = q
      · subst z
        rw [fQq]
        exact ⟨fun d hd => KP_k hg K ((hG p hp).1 d hd) (by decide), DR_f (fI _ (by decide)) (fI _ (by decide)) (fI _ (by decide)) (hG p hp).2⟩
      · rw [fQ _ (fun y => z (di r hr q hq y))]
        obtain ⟨y1, y2⟩ := p5 p hp
        refine ⟨fun d hd => KP_k hg K (y1 d hd) (by decide), DR_f (fI _ (by decide)) (fI _ (by decide)) (fI _ (by decide)) ?_⟩
        obtain ⟨w1, w2, w3⟩ := h20 r p hr z hp
        unfold DR at *
        rw [w1, w2, w3]
        exact y2
  · unfold SSo at *
    rw [stB_v gv]
    exact hx
  · rw [fI _ (by decide), hE 2 (by decide) (by decide)]
    exact s1
  · rw [fI _ (by decide), hE 1 (by decide) (by decide)]
    exact s2
theorem TNR_dc {S T : MM} {n R : Nat} (hE : ∀ a, 1 ≤ a → a ≤ 19 → T a = S a) (hD : TDo T R) (H : TNR S n R) : TNR T n R := by
  obtain ⟨⟨a1, a2, a3, a4⟩, b, c, d, e⟩ := H
  refine ⟨⟨TS_e (hE 3 (by decide) (by decide)) (hE 5 (by decide) (by decide)) a1, RTo_v (fun a h1 h2 => hE a (by omega) (by omega)) a2, hD, ?_⟩, ?_, ?_, ?_, ?_⟩
  · unfold WDo
    rw [hE 8 (by decide) (by decide)]
    exact a4
  · unfold NI
    rw [hE 4 (by decide) (by decide)]
    exact b
  · rw [hE 9 (by decide) (by decide)]
    exact c
  · rw [hE 1 (by decide) (by decide)]
    exact d
  · rw [hE 19 (by decide) (by decide)]
    exact e
theorem NM_dc {S T : MM} {n b : Nat} (hE : ∀ a, 1 ≤ a → a ≤ 19 → T a = S a) (H : NM S n b) : NM T n b := by
  unfold NM at *
  rw [hE 2 (by decide) (by decide), hE 4 (by decide) (by decide)]
  exact H
theorem KO_I {h h1 : Hp} {S : MM} {n : Nat} {mt : Nat → Option Nat} {Ee : Nat → Nat} (f : ∀ g, 258 ≤ g → g ≤ 266 → hI h1 g = hI h g) (eR : hR h1 = hR h) (eA : hA h1 = hA h) (H : KO h S n mt Ee) : KO h1 S n mt Ee := fun e he => by
  have hk := H e he
  have k1 : kpt h1 = kpt h := funext fun x => by unfold kpt; rw [eR]
  have v1 : vls h1 = vls h := funext fun x => by unfold vls; rw [eR]
  have s1 : scs h1 = scs h := funext fun x => by unfold scs; rw [eR]
  rw [k1]
  cases hm : mt e with
  | none =>
    rw [hm] at hk
    show hI h1 fL_isKnown (kpt h (Ee e)) = 0
    rw [f _ (by decide) (by decide)]
    exact hk
  | some q =>
    rw [hm] at hk
    have hk : LKo h (kpt h (Ee e)) S q := hk
    show LKo h1 (kpt h (Ee e)) S q
    unfold LKo at *
    rw [v1, s1, eA, f fL_isKnown (by decide) (by decide), f fL_hasBox (by decide) (by decide), f fL_left (by decide) (by decide), f fL_top (by decide) (by decide), f fL_width (by decide) (by decide), f fL_height (by decide) (by decide), f fL_lineCount (by decide) (by decide)]
    exact hk
/-! one declaration -/
def t3 (S : MM) (i : Nat) (k v f : Int32) : MM := u2 (u2 (u2 S 20 i k) 21 i v) 22 i f
theorem t3_o {S : MM} {i : Nat} {k v f : Int32} {a : Nat} (h : a ≤ 19) : t3 S i k v f a = S a := funext fun j => by
  unfold t3
  rw [u2_row (by omega), u2_row (by omega), u2_row (by omega)]
theorem t3_n {S : MM} {i j : Nat} {k v f : Int32} (h : j ≠ i) (a : Nat) : t3 S i k v f a j = S a j := by
  unfold t3
  rw [u2_ne (fun z => h z.2), u2_ne (fun z => h z.2), u2_ne (fun z => h z.2)]
theorem t3_20 {S : MM} {i : Nat} {k v f : Int32} : t3 S i k v f 20 i = k := by
  unfold t3
  rw [u2_row (by decide), u2_row (by decide), u2_self]
theorem t3_21 {S : MM} {i : Nat} {k v f : Int32} : t3 S i k v f 21 i = v := by
  unfold t3
  rw [u2_row (by decide), u2_self]
theorem t3_22 {S : MM} {i : Nat} {k v f : Int32} : t3 S i k v f 22 i = f := by
  unfold t3
  rw [u2_self]
theorem tDec_1 {S : MM} {r p : Nat} {k v f : Int32} (h : p ≠ 14) : tDec S r p k v f = t3 S (14 * r + p) k v f := by
  unfold tDec
  rw [if_neg h]
  rfl
theorem tDec_2 {S : MM} {r : Nat} {k v f : Int32} : tDec S r 14 k v f = t3 (t3 S (14 * r + 3) k v f) (14 * r + 4) k v f := by
  unfold tDec
  rw [if_pos rfl]
  rfl
/-- a declaration that is allowed -/
def VD (p : Nat) (k v f : Int32) : Prop := (k = 1 ∧ (m_canBe (nI p) v = 1 ∨ p < 3 ∧ v = -2)) ∨ (k = 2 ∧ ∃ w, w < 4 ∧ v = nI w) ∨ (k = 3 ∧ ∃ u, u < 4 ∧ v = nI u ∧ (f = -1 ∨ m_canBe (nI p) f = 1))
theorem t3_D {S : MM} {R q p : Nat} {k v f : Int32} (hp : p < 14) (hV : VD p k v f) (H : TDo S R) : TDo (t3 S (14 * q + p) k v f) R := fun r p' hr hp' => by
  by_cases z : 14 * r + p' = 14 * q + p
  · have e1 : p' = p := by omega
    rw [z, t3_20, t3_21, t3_22, e1]
    exact Or.inr hV
  · rw [t3_n z, t3_n z, t3_n z]
    exact H r p' hr hp'
theorem cn_up {P Q : Nat → Bool} {p : Nat} (hq : ∀ i, i ≠ p → Q i = P i) (hp : Q p = true) : ∀ n, cn Q n = cn P n + if p < n ∧ P p = false then 1 else 0
  | 0 => by rw [if_neg (fun z => absurd z.1 (Nat.not_lt_zero p))]; rfl
  | n + 1 => by
    rw [cn_s, cn_s, cn_up hq hp n]
    by_cases z : n = p
    · subst z
      rw [hp, if_pos rfl, if_neg (fun z => absurd z.1 (Nat.lt_irrefl n))]
      cases hb : P n
      · rw [if_neg (fun z => Bool.noConfusion z), if_pos ⟨Nat.lt_succ_self n, rfl⟩]
      · rw [if_pos rfl, if_neg (fun z => Bool.noConfusion z.2)]
    · rw [hq n z]
      have : (p < n + 1 ∧ P p = false) ↔ (p < n ∧ P p = false) := ⟨fun y => ⟨by omega, y.2⟩, fun y => ⟨by omega, y.2⟩⟩
      simp only [this]
      omega
theorem dcl_t3 {S : MM} {q p : Nat} {k v f : Int32} (hp : p < 14) (hk : k ≠ 0) : cn (dclS (t3 S (14 * q + p) k v f) q) 14 = cn (dclS S q) 14 + if dclS S q p = true then 0 else 1 := by
  rw [cn_up (P := dclS S q) (p := p) (fun i hi => by
    unfold dclS
    rw [t3_n (by omega)]) (by
    unfold dclS
    rw [t3_20, decide_eq_false hk]
    rfl) 14]
  cases dclS S q p
  · rw [if_pos ⟨hp, rfl⟩, if_neg (fun z => Bool.noConfusion z)]
  · rw [if_neg (fun z => Bool.noConfusion z.2), if_pos rfl]
theorem nwo_d {S : MM} {h : Hp} {q p Dq : Nat} (H : DR S h (14 * q + p) (hQ h Dq p)) : nwo h Dq p = nI (if dclS S q p = true then 0 else 1) := by
  have hn := DR_none H
  unfold nwo dclS
  by_cases z : hQ h Dq p = none
  · rw [if_pos z, decide_eq_true (hn.mp z)]
    rfl
  · rw [if_neg z, decide_eq_false (fun y => z (hn.mpr y))]
    rfl
/-- what a new declaration tells -/
def DN (h : Hp) (d : Nat) (k v f : Int32) : Prop := hK h d = 2 ∧ ((k = 1 ∧ hI h fD_kind d = 4 ∧ hI h fD_number d = v) ∨ (k = 2 ∧ hI h fD_kind d = v) ∨ (k = 3 ∧ hI h fD_kind d = 5 ∧ hI h fD_variable d = v ∧ hI h fD_number d = f))
theorem TLD_p1 {A D : Nat → Nat} {m : Nat} {h : Hp} {S : MM} {n R q p d : Nat} {k v f : Int32} {Ee : Nat → Nat} {is ss : List Nat} {ra : Nat → Nat} {pa : Nat → Nat → Nat} {Dd Pl dP : Nat → Nat} (hq : q < R) (hp : p < 14) (hd : DN h d k v f) (TL : TLD A D m h S n R Ee is ss ra pa Dd Pl dP) : TLD A D m (ptO h (ra q) (Dd q) p d) (t3 S (14 * q + p) k v f) n R Ee is ss ra pa Dd Pl dP := by
  have hk : k ≠ 0 := by
    rcases hd.2 with z | z | z
    · rw [z.1]; decide
    · rw [z.1]; decide
    · rw [z.1]; decide
  have H := TL.2.2.2.2.2.1.2.2 q hq
  have hdn := (kind_in TL.1 hd.1 (by decide)).2
  have hcnt : hI h fU_declarationCount (ra q) + nwo h (Dd q) p = nI (cn (dclS (t3 S (14 * q + p) k v f) q) 14) := by
    rw [H.1.2.2.2.2, nwo_d (H.2.2.2.2 p hp).2, nI_add, dcl_t3 hp hk]
  refine TLD_dc hq TL (Gf := va_up (hQ h (Dd q)) p (some d)) (fun a _ h2 => t3_o h2) (fun r p' hr hne hp' => ⟨t3_n (by omega) _, t3_n (by omega) _, t3_n (by omega) _⟩) hcnt (fun p' hp' => ?_) (fun j x hx => ?_)
  · by_cases z : p' = p
    · subst z
      rw [va_up_self]
      refine ⟨fun x hx => by cases hx; exact hd.1, ?_⟩
      show (_ ∨ _ ∨ _)
      rw [t3_20, t3_21, t3_22]
      exact hd.2
    · rw [va_up_ne _ _ z]
      obtain ⟨y1, y2⟩ := H.2.2.2.2 p' hp'
      refine ⟨y1, ?_⟩
      unfold DR at *
      rw [t3_n (by omega), t3_n (by omega), t3_n (by omega)]
      exact y2
  · by_cases z : j = p
    · subst z
      rw [va_up_self] at hx
      cases hx
      exact hdn
    · rw [va_up_ne _ _ z] at hx
      exact TL.1.2.2.2.2.1 _ j x hx
