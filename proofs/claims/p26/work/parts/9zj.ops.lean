/-! ===== the simple changes: what is told of elements, or of rules, stays ===== -/
def RU (S S' : MM) : Prop := ∀ k, 10 ≤ k → k ≤ 22 → k ≠ 19 → S' k = S k
def EU (S S' : MM) : Prop := ∀ k, 3 ≤ k → k ≤ 9 → S' k = S k
theorem gS_r {S S' : MM} (g : RU S S') : gS S' = gS S := funext fun r => by
  unfold gS
  rw [g 16 (by decide) (by decide) (by decide), g 17 (by decide) (by decide) (by decide), g 18 (by decide) (by decide) (by decide)]
theorem wtS_r {S S' : MM} (g : RU S S') (r : Nat) : ∀ k, wtS S' r k = wtS S r k
  | 0 => rfl
  | k + 1 => by
    show wtS S' r k + ptW S' (3 * r + k) = wtS S r k + ptW S (3 * r + k)
    unfold ptW
    rw [wtS_r g r k, g 13 (by decide) (by decide) (by decide), g 14 (by decide) (by decide) (by decide), g 15 (by decide) (by decide) (by decide)]
theorem wS_r {S S' : MM} (g : RU S S') (r : Nat) : wS S' r = wS S r := by
  unfold wS
  rw [wtS_r g, g 11 (by decide) (by decide) (by decide)]
theorem stB_r {S S' : MM} (g : RU S S') : stB S' = stB S := funext fun r => funext fun q => by
  unfold stB
  rw [gS_r g, wS_r g, wS_r g]
theorem dclS_r {S S' : MM} (g : RU S S') (r : Nat) : dclS S' r = dclS S r := funext fun p => by
  unfold dclS
  rw [g 20 (by decide) (by decide) (by decide)]
theorem DR_r {S S' : MM} {h : Hp} {i : Nat} {o : Option Nat} (g : RU S S') (H : DR S h i o) : DR S' h i o := by
  unfold DR at *
  rw [g 20 (by decide) (by decide) (by decide), g 21 (by decide) (by decide) (by decide), g 22 (by decide) (by decide) (by decide)]
  exact H
theorem RTo_r {S S' : MM} {R : Nat} (g : RU S S') (h : RTo S R) : RTo S' R := by
  unfold RTo RSo at *
  rw [g 10 (by decide) (by decide) (by decide), g 11 (by decide) (by decide) (by decide), g 14 (by decide) (by decide) (by decide), g 15 (by decide) (by decide) (by decide), g 16 (by decide) (by decide) (by decide), g 17 (by decide) (by decide) (by decide), g 18 (by decide) (by decide) (by decide)]
  exact h
theorem TDo_r {S S' : MM} {R : Nat} (g : RU S S') (h : TDo S R) : TDo S' R := by
  unfold TDo at *
  rw [g 20 (by decide) (by decide) (by decide), g 21 (by decide) (by decide) (by decide), g 22 (by decide) (by decide) (by decide)]
  exact h
theorem TR1_r {S S' : MM} {h : Hp} {ra : Nat → Nat} {pa : Nat → Nat → Nat} {Dd Pl dP : Nat → Nat} {r : Nat} (g : RU S S') (h19 : S' 19 r = S 19 r) (H : TR1 S h ra pa Dd Pl dP r) : TR1 S' h ra pa Dd Pl dP r := by
  obtain ⟨h1, h2, h3, h4, h5⟩ := H
  refine ⟨?_, ?_, ?_, h4, fun p hp => ⟨(h5 p hp).1, DR_r g (h5 p hp).2⟩⟩
  · rw [h19, gS_r g, wS_r g, dclS_r g]
    exact h1
  · rw [g 11 (by decide) (by decide) (by decide)]
    exact h2
  · rw [g 11 (by decide) (by decide) (by decide), g 12 (by decide) (by decide) (by decide), g 13 (by decide) (by decide) (by decide), g 14 (by decide) (by decide) (by decide), g 15 (by decide) (by decide) (by decide)]
    exact h3
theorem SSo_r {S S' : MM} {R : Nat} {ra : Nat → Nat} {ss : List Nat} (g : RU S S') (H : SSo S R ra ss) : SSo S' R ra ss := by
  unfold SSo at *
  rw [stB_r g]
  exact H
theorem par_e {S S' : MM} (g : S' 5 = S 5) : par S' = par S := funext fun e => by
  unfold par
  rw [g]
theorem ahS_e {S S' : MM} (g : S' 5 = S 5) (e : Nat) : ∀ k, ahS S' e k = ahS S e k
  | 0 => rfl
  | k + 1 => by
    unfold ahS
    rw [g, ahS_e g e k]
theorem nxS_e {S S' : MM} (g : S' 5 = S 5) (n e : Nat) : nxS S' n e = nxS S n e := by
  unfold nxS
  rw [par_e g]
theorem chl_e {S S' : MM} (g : S' 5 = S 5) (n e : Nat) : chl S' n e = chl S n e := by
  unfold chl
  rw [par_e g]
theorem TS_e {S S' : MM} {n : Nat} (g3 : S' 3 = S 3) (g5 : S' 5 = S 5) (h : TS S n) : TS S' n := by
  unfold TS at *
  rw [g3, g5]
  exact h
theorem TEL_e {S S' : MM} {n : Nat} {h : Hp} {Ee : Nat → Nat} (g : EU S S') (H : TEL S n h Ee) : TEL S' n h Ee := by
  have g5 := g 5 (by decide) (by decide)
  refine ⟨H.1, fun e he => ?_⟩
  rw [g 4 (by decide) (by decide), g 6 (by decide) (by decide), g 7 (by decide) (by decide), g 8 (by decide) (by decide), g 9 (by decide) (by decide), par_e g5, ahS_e g5, nxS_e g5, chl_e g5]
  exact H.2 e he
theorem KP_sI {h : Hp} {f a : Nat} {v : Int32} : KP h (sI h f a v) := ⟨Nat.le_refl _, fun _ _ => ⟨rfl, rfl⟩⟩
theorem AL_sI {h : Hp} {f a l d : Nat} {v : Int32} {xs : List Nat} (hf : f ≠ fA_size) (H : AL h l d xs) : AL (sI h f a v) l d xs := by
  unfold AL at *
  rw [iI_ne (fun z => hf z.symm)]
  exact H
theorem LSS_sI {A D : Nat → Nat} {h : Hp} {R f a : Nat} {v : Int32} {Pl dP : Nat → Nat} {es is ss rs : List Nat} (hf : f ≠ fA_size) (H : LSS A D h R Pl dP es is ss rs) : LSS A D (sI h f a v) R Pl dP es is ss rs := by
  obtain ⟨l7, l8, ⟨⟨xs, l9⟩, cp⟩, l10, l11, lp⟩ := H
  exact ⟨AL_sI hf l7, AL_sI hf l8, ⟨⟨xs, AL_sI hf l9⟩, cp⟩, AL_sI hf l10, AL_sI hf l11, lp⟩
theorem MFR_sI {m : Nat} {h : Hp} {f a : Nat} {v : Int32} (hf : f < 640) : MFR m h (sI h f a v) := ⟨KP_sI, fun g x hg => by rw [iI_ne (by omega)], fun _ _ => rfl, fun _ _ _ => rfl, rfl⟩
theorem KO_sI {h : Hp} {S : MM} {n f a : Nat} {v : Int32} {mt : Nat → Option Nat} {Ee : Nat → Nat} (hf : f < 258 ∨ 266 < f) (H : KO h S n mt Ee) : KO (sI h f a v) S n mt Ee := fun e he => by
  have hk := H e he
  have o : ∀ g, 258 ≤ g → g ≤ 266 → hI (sI h f a v) g = hI h g := fun g h1 h2 => iI_ne (by omega)
  cases hm : mt e with
  | none =>
    rw [hm] at hk
    show hI (sI h f a v) fL_isKnown (kpt h (Ee e)) = 0
    rw [o _ (by decide) (by decide)]
    exact hk
  | some q =>
    rw [hm] at hk
    show LKo (sI h f a v) (kpt h (Ee e)) S q
    have hk : LKo h (kpt h (Ee e)) S q := hk
    unfold LKo at *
    rw [o fL_isKnown (by decide) (by decide), o fL_hasBox (by decide) (by decide), o fL_left (by decide) (by decide), o fL_top (by decide) (by decide), o fL_width (by decide) (by decide), o fL_height (by decide) (by decide), o fL_lineCount (by decide) (by decide)]
    exact hk
/-- one of tag, classes, words, isContainer of an element -/
theorem TLD_el {A D : Nat → Nat} {m : Nat} {h : Hp} {S : MM} {n R : Nat} {Ee : Nat → Nat} {is ss : List Nat} {ra : Nat → Nat} {pa : Nat → Nat → Nat} {Dd Pl dP : Nat → Nat} {p f k : Nat} {v : Int32} (hk : (f = fE_classes ∧ k = 7) ∨ (f = fE_words ∧ k = 8) ∨ (f = fE_isContainer ∧ k = 9)) (hp : p < n) (T : TLD A D m h S n R Ee is ss ra pa Dd Pl dP) : TLD A D m (sI h f (Ee p) v) (u2 S k p v) n R Ee is ss ra pa Dd Pl dP := by
  obtain ⟨hg, hX, hL, hE, ⟨hi, hT⟩, ⟨ri, di, hR⟩, hx, s1, s2⟩ := T
  have ro : ∀ a, a ≠ k → u2 S k p v a = S a := fun a ha => funext fun j => by rw [u2_row ha]
  have k79 : 7 ≤ k ∧ k ≤ 9 := by omega
  have f19 : 194 ≤ f ∧ f ≤ 196 := by
    rcases hk with z | z | z
    · rw [z.1]; decide
    · rw [z.1]; decide
    · rw [z.1]; decide
  have fo : ∀ g, g < 194 ∨ 196 < g → hI (sI h f (Ee p) v) g = hI h g := fun g hg => iI_ne (by omega)
  have gr : RU S (u2 S k p v) := fun a h1 h2 _ => ro a (by omega)
  have g5 : u2 S k p v 5 = S 5 := ro 5 (by omega)
  have lE : Ee p < hN h := (kind_in hg (hE.2.1 _ (Ee_m (is := is) hp)).1 (by decide)).2
  have nb : ∀ e, e < n → e ≠ p → Ee e ≠ Ee p := fun e he q z => q (hi e he p hp z)
  refine ⟨gd_sI hg lE, FXD_f hg KP_sI (fun _ _ => rfl) hX, LSS_sI (by
    have : fA_size < 194 := by decide
    omega) hL, hE, ⟨hi, fun e he => ?_⟩, ⟨ri, di, fun r hr => ?_⟩, SSo_r gr hx, ?_, ?_⟩
  · obtain ⟨⟨t1, t2, t3, t4, t5⟩, tt⟩ := hT e he
    rw [par_e g5, ahS_e g5, nxS_e g5, chl_e g5]
    refine ⟨⟨?_, ?_, ?_, ?_, ?_⟩, tt⟩
    · rw [fo _ (by decide), ro 4 (by omega)]; exact t1
    · rw [fo _ (by decide), ro 6 (by omega)]; exact t2
    · rcases hk with ⟨z, y⟩ | ⟨z, y⟩ | ⟨z, y⟩
      · subst z y
        by_cases q : e = p
        · rw [q, iI_at, u2_self]
        · rw [iI_nb (nb e he q), u2_ne (fun z => q z.2)]; exact t3
      · rw [z, y, iI_ne (by decide), u2_row (by decide)]; exact t3
      · rw [z, y, iI_ne (by decide), u2_row (by decide)]; exact t3
    · rcases hk with ⟨z, y⟩ | ⟨z, y⟩ | ⟨z, y⟩
      · rw [z, y, iI_ne (by decide), u2_row (by decide)]; exact t4
      · subst z y
        by_cases q : e = p
        · rw [q, iI_at, u2_self]
        · rw [iI_nb (nb e he q), u2_ne (fun z => q z.2)]; exact t4
      · rw [z, y, iI_ne (by decide), u2_row (by decide)]; exact t4
    · rcases hk with ⟨z, y⟩ | ⟨z, y⟩ | ⟨z, y⟩
      · rw [z, y, iI_ne (by decide), u2_row (by decide)]; exact t5
      · rw [z, y, iI_ne (by decide), u2_row (by decide)]; exact t5
      · subst z y
        by_cases q : e = p
        · rw [q, iI_at, u2_self]
        · rw [iI_nb (nb e he q), u2_ne (fun z => q z.2)]; exact t5
  · refine TR1_r gr (by rw [ro 19 (by omega)]) (TR1_f hg KP_sI (fun g hg => fo g ?_) rfl rfl (AL_sI (by
      have : fA_size < 194 := by decide
      omega) (hR r hr).2.1.2) rfl (hR r hr))
    rcases hg with z | z | z | z | z | z | z | z | z | z | z | z <;> subst z <;> decide
  · rw [fo _ (by decide), ro 2 (by omega)]
    exact s1
  · rw [fo _ (by decide), ro 1 (by omega)]
    exact s2
