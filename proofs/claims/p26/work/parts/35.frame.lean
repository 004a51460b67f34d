/-! ===== what calls on one list leave as it was ===== -/
/-- kinds and lengths of what is there stay -/
def KP (h h' : Hp) : Prop := hN h ≤ hN h' ∧ ∀ a, a < hN h → hK h' a = hK h a ∧ hL h' a = hL h a
theorem KP_r (h : Hp) : KP h h := ⟨Nat.le_refl _, fun _ _ => ⟨rfl, rfl⟩⟩
theorem KP_t {h h1 h2 : Hp} (A : KP h h1) (B : KP h1 h2) : KP h h2 :=
  ⟨Nat.le_trans A.1 B.1, fun a ha => by
    obtain ⟨p, q⟩ := A.2 a ha
    obtain ⟨p', q'⟩ := B.2 a (Nat.lt_of_lt_of_le ha A.1)
    exact ⟨p'.trans p, q'.trans q⟩⟩
theorem KP_k {h h' : Hp} (hg : Good h) (A : KP h h') {a k : Nat} (hk : hK h a = k) (h9 : k ≠ 999) : hK h' a = k :=
  (A.2 a (kind_in hg hk h9).2).1.trans hk
theorem KP_l {h h' : Hp} (hg : Good h) (A : KP h h') {a k : Nat} (hk : hK h a = k) (h9 : k ≠ 999) : hL h' a = hL h a :=
  (A.2 a (kind_in hg hk h9).2).2
theorem KP_nw {h : Hp} {k n : Nat} : KP h (nw h k n) :=
  ⟨Nat.le_succ _, fun a ha => ⟨va_up_ne _ _ (by omega), va_up_ne _ _ (by omega)⟩⟩
/-- calls on the list at l with the row d leave its row d' and all else as it was -/
def LF (h h' : Hp) (l d d' : Nat) : Prop :=
  KP h h' ∧ (d' = d ∨ hN h ≤ d') ∧ (∀ f, f ≠ fA_modCount → f ≠ fA_size → hI h' f = hI h f) ∧ (∀ f b, b ≠ l → hI h' f b = hI h f b) ∧
  (∀ f, f ≠ fA_elementData → hR h' f = hR h f) ∧ (∀ f b, b ≠ l → hR h' f b = hR h f b) ∧ hA h' = hA h ∧ hW h' = hW h ∧ (∀ b, b < hN h → b ≠ d → hQ h' b = hQ h b)
theorem LF_r (h : Hp) (l d : Nat) : LF h h l d d :=
  ⟨KP_r h, Or.inl rfl, fun _ _ _ => rfl, fun _ _ _ => rfl, fun _ _ => rfl, fun _ _ _ => rfl, rfl, rfl, fun _ _ _ => rfl⟩
theorem LF_of {h h' : Hp} {l d d' : Nat} (F : ALf h h' l d d') : LF h h' l d d' := by
  obtain ⟨f1, f2, f3, f4, f5, f6, f7, f8⟩ := F
  rcases f1 with ⟨e1, e2, e3, e4⟩ | ⟨e1, e2, e3, n, e4, e5⟩
  · exact ⟨⟨Nat.le_of_eq e2.symm, fun a _ => ⟨congrFun e3 a, congrFun e4 a⟩⟩, Or.inl e1, f2, f3, f4, f5, f6, f7, fun b _ hb => f8 b (by rw [e1]; exact hb)⟩
  · exact ⟨⟨by omega, fun a ha => ⟨by rw [e3, va_up_ne _ _ (by omega)], by rw [e5, va_up_ne _ _ (by omega)]⟩⟩, Or.inr (by omega), f2, f3, f4, f5, f6, f7, fun b hb _ => f8 b (by omega)⟩
theorem LF_t {h h1 h2 : Hp} {l d d1 d2 : Nat} (A : LF h h1 l d d1) (B : LF h1 h2 l d1 d2) : LF h h2 l d d2 := by
  obtain ⟨a0, a1, a2, a3, a4, a5, a6, a7, a8⟩ := A
  obtain ⟨b0, b1, b2, b3, b4, b5, b6, b7, b8⟩ := B
  refine ⟨KP_t a0 b0, ?_, fun f x z => (b2 f x z).trans (a2 f x z), fun f b hb => (b3 f b hb).trans (a3 f b hb), fun f hf => (b4 f hf).trans (a4 f hf), fun f b hb => (b5 f b hb).trans (a5 f b hb), b6.trans a6, b7.trans a7, fun b hb hd => ?_⟩
  · rcases b1 with e | e
    · rw [e]; exact a1
    · exact Or.inr (Nat.le_trans a0.1 e)
  · refine (b8 b (Nat.lt_of_lt_of_le hb a0.1) ?_).trans (a8 b hb hd)
    rcases a1 with e | e
    · rw [e]; exact hd
    · omega
/-- another list with another row stays -/
theorem LF_AL {h h' : Hp} {l d d' l2 d2 : Nat} {ys : List Nat} (hg : Good h) (F : LF h h' l d d') (H : AL h l2 d2 ys) (hl : l2 ≠ l) (hd : d2 = d → d2 = 4) : AL h' l2 d2 ys := by
  obtain ⟨a0, a1, a2, a3, a4, a5, a6, a7, a8⟩ := F
  obtain ⟨h1, h2, h3, h4, h5⟩ := H
  refine ⟨KP_k hg a0 h1 (by decide), (a3 _ _ hl).trans h2, (a5 _ _ hl).trans h3, h4, ?_⟩
  rcases h5 with h5 | ⟨q1, q2, q3, q4, q5⟩
  · exact Or.inl h5
  · have hl2 : hL h' d2 = hL h d2 := KP_l hg a0 q2 (by decide)
    refine Or.inr ⟨q1, KP_k hg a0 q2 (by decide), by rw [hl2]; exact q3, by rw [hl2]; exact q4, fun i x hi => ?_⟩
    rw [a8 d2 (kind_in hg q2 (by decide)).2 (fun z => by have := hd z; omega)]
    exact q5 i x hi
theorem KP_LW {h h' : Hp} (hg : Good h) (K : KP h h') (hR1 : hR h' fL_values = hR h fL_values) (hR2 : hR h' fL_sources = hR h fL_sources) {k : Nat} (H : LW h k) : LW h' k := by
  have e1 : vls h' k = vls h k := by unfold vls; rw [hR1]
  have e2 : scs h' k = scs h k := by unfold scs; rw [hR2]
  obtain ⟨h1, h2, h3, h4, h5, h6, h7⟩ := H
  unfold LW
  rw [e1, e2]
  exact ⟨KP_k hg K h1 (by decide), by rw [hR1]; exact h2, by rw [hR2]; exact h3, KP_k hg K h4 (by decide), by rw [KP_l hg K h4 (by decide)]; exact h5, KP_k hg K h6 (by decide), by rw [KP_l hg K h6 (by decide)]; exact h7⟩
/-- the fields of elements and looks that hold references stay -/
def RE (h h' : Hp) : Prop := ∀ f, (f = fL_values ∨ f = fL_sources ∨ f = fE_fresh ∨ f = fE_kept ∨ f = fE_parent ∨ f = fE_ahead ∨ f = fE_next ∨ f = fE_first ∨ f = fE_last) → hR h' f = hR h f
theorem RE_r (h : Hp) : RE h h := fun _ _ => rfl
theorem RE_t {h h1 h2 : Hp} (A : RE h h1) (B : RE h1 h2) : RE h h2 := fun f z => (B f z).trans (A f z)
theorem RE_frs {h h' : Hp} (R : RE h h') (e : Nat) : frs h' e = frs h e := by unfold frs; rw [R _ (by simp)]
theorem RE_kpt {h h' : Hp} (R : RE h h') (e : Nat) : kpt h' e = kpt h e := by unfold kpt; rw [R _ (by simp)]
theorem RE_vls {h h' : Hp} (R : RE h h') (e : Nat) : vls h' e = vls h e := by unfold vls; rw [R _ (by simp)]
theorem RE_scs {h h' : Hp} (R : RE h h') (e : Nat) : scs h' e = scs h e := by unfold scs; rw [R _ (by simp)]
theorem KP_EW {h h' : Hp} (hg : Good h) (K : KP h h') (R : RE h h') {e : Nat} (H : EW h e) : EW h' e := by
  obtain ⟨h1, h2, h3, h4, h5⟩ := H
  have v := R fL_values (by simp)
  have s := R fL_sources (by simp)
  refine ⟨KP_k hg K h1 (by decide), ?_, ?_, ?_, ?_⟩
  · rw [RE_frs R, R _ (by simp)]; exact h2
  · rw [RE_frs R]; exact KP_LW hg K v s h3
  · rw [RE_kpt R, R _ (by simp)]; exact h4
  · rw [RE_kpt R]; exact KP_LW hg K v s h5
theorem KP_LN {f : Nat} {h h' : Hp} (hg : Good h) (K : KP h h') (hf : hR h' f = hR h f) : ∀ {xs : List Nat} {o : Option Nat}, LN f h o xs → LN f h' o xs
  | [], _, H => H
  | a :: xs, o, ⟨h1, h2, h3, h4⟩ => ⟨h1, KP_k hg K h2 (by decide), h3, by rw [hf]; exact KP_LN hg K hf h4⟩
theorem KP_TW {h h' : Hp} (hg : Good h) (K : KP h h') (R : RE h h') {es : List Nat} {U : Nat → List Nat} (H : TW h es U) : TW h' es U := fun e he => by
  obtain ⟨h1, h2, h3, h4, h5⟩ := H e he
  have p := R fE_parent (by simp)
  refine ⟨KP_EW hg K R h1, h2, by rw [p]; exact KP_LN hg K p h3, h4, fun a ha => h5 a ?_⟩
  rw [R fE_ahead (by simp)] at ha
  exact ha
theorem LF_RE {h h' : Hp} {l d d' : Nat} (F : LF h h' l d d') : RE h h' := fun f z => F.2.2.2.2.1 f (by
  rcases z with z | z | z | z | z | z | z | z | z <;> (rw [z]; decide))
/-- the rules rs with their parts pts -/
def RW (h : Hp) (rs : List Nat) (pts : Nat → List Nat) (l d : Nat) : Prop :=
  ∀ r, r ∈ rs → hK h r = 6 ∧ ∃ P dP, hR h fU_parts r = some P ∧ AL h P dP (pts r) ∧ (pts r).length ≤ 3 ∧ (∀ q, q ∈ pts r → hK h q = 5) ∧ P ≠ l ∧ (dP = d → dP = 4)
theorem LF_RW {h h' : Hp} {l d d' : Nat} {rs : List Nat} {pts : Nat → List Nat} (hg : Good h) (F : LF h h' l d d') (H : RW h rs pts l d) : RW h' rs pts l d' := fun r hr => by
  obtain ⟨h1, P, dP, h2, h3, h4, h5, h6, h7⟩ := H r hr
  have F0 := F
  obtain ⟨a0, a1, a2, a3, a4, a5, a6, a7, a8⟩ := F
  refine ⟨KP_k hg a0 h1 (by decide), P, dP, by rw [a4 _ (by decide)]; exact h2, LF_AL hg F0 h3 h6 h7, h4, fun q hq => KP_k hg a0 (h5 q hq) (by decide), h6, fun z => ?_⟩
  rcases a1 with e | e
  · exact h7 (z.trans e)
  · rcases h3.2.2.2.2 with ⟨q, -⟩ | ⟨-, q, -⟩
    · exact q
    · have := (kind_in hg q (by decide)).2
      omega
/-- whether an element fits depends on integers of elements and parts alone -/
theorem lik_eq {h h' : Hp} (i1 : hI h' fP_tag = hI h fP_tag) (i2 : hI h' fE_tag = hI h fE_tag) (i3 : hI h' fE_classes = hI h fE_classes) (i4 : hI h' fP_has = hI h fP_has) (i5 : hI h' fP_lacks = hI h fP_lacks) (q e : Nat) : lik h' q e = lik h q e := by
  unfold lik; rw [i1, i2, i3, i4, i5]
theorem RS_eq {h h' : Hp} {U : Nat → List Nat} (hl : ∀ q e, lik h' q e = lik h q e) (hw : hI h' fP_way = hI h fP_way) (hp : hR h' fE_parent = hR h fE_parent) (ha : hR h' fE_ahead = hR h fE_ahead) : ∀ (qs : List Nat) (e : Nat), RS h' U qs e = RS h U qs e
  | [], _ => rfl
  | q :: qs, e => by
    have ih := RS_eq (U := U) hl hw hp ha qs
    rw [RS_c, RS_c, hw, hp, ha]
    simp only [ih, hl]
theorem SL_LF {h h' : Hp} {l d d' : Nat} {U : Nat → List Nat} (F : LF h h' l d d') (ps : List Nat) (e : Nat) : SL h' U ps e = SL h U ps e := by
  obtain ⟨a0, a1, a2, a3, a4, a5, a6, a7, a8⟩ := F
  have hl := lik_eq (h := h) (h' := h') (a2 _ (by decide) (by decide)) (a2 _ (by decide) (by decide)) (a2 _ (by decide) (by decide)) (a2 _ (by decide) (by decide)) (a2 _ (by decide) (by decide))
  cases ps with
  | nil => rfl
  | cons q qs =>
    show (lik h' q e ∧ RS h' U qs e) = (lik h q e ∧ RS h U qs e)
    rw [hl, RS_eq hl (a2 _ (by decide) (by decide)) (a4 _ (by decide)) (a4 _ (by decide))]
